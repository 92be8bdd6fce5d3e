set_option maxRecDepth 20000 in
set_option maxHeartbeats 4000000 in
theorem t_Jx4a65c_size_8abf5 {n e cp G : Nat} (hg : gh n e cp) {M : gaM} {rz : Int}  (hf : f_Jx4a65c_size_8abf5 G n M = some rz) : ga_Met yJx4a65c_size_8abf5 cJx4a65c_size_8abf5 1 (some .int) 0 (gk n e cp) M [.inr (some 2)] (some (.inl rz)) M := by
  refine ga_met (by decide) rfl (Nat.le_of_ble_eq_true rfl) ?_
  intro X C hK T
  show ga_W X M 0 [some (.inr (some 2))] []
  unfold f_Jx4a65c_size_8abf5 at hf
  refine ga_al0 C eJx4a65c_size_8abf5_0 ?_
  refine ga_getI C hK eJx4a65c_size_8abf5_1 lRJx4a65c_48 rfl rfl ?_
  exact ga_iret0 C T eJx4a65c_size_8abf5_4 hf

set_option maxRecDepth 20000 in
set_option maxHeartbeats 4000000 in
theorem t_X0_clear {n e cp G : Nat} (hg : gh n e cp) {M Mz : gaM} {o0 : Nat} (ho0 : o0 = 4 ∨ o0 = 5) (hf : f_X0_clear G n M o0 = some Mz) : ga_Met yX0_clear cX0_clear 2 none 0 (gk n e cp) M [.inr (some o0)] none Mz := by
  refine ga_met (by decide) rfl (Nat.le_of_ble_eq_true rfl) ?_
  intro X C hK T
  show ga_W X M 0 [some (.inr (some o0)), none] []
  unfold f_X0_clear at hf
  refine ga_push C eX0_clear_0 ?_
  refine ga_is1 C eX0_clear_1 ?_
  have L2 : ∀ (F : Nat) (M : gaM) (v1 : Int) (M1 : gaM), l_X0_clear_2 G n o0 F M v1 = some M1 → ga_W X M1 21 [some (.inr (some o0)), none] [] → ga_W X M 2 [some (.inr (some o0)), some (.inl v1)] [] := by
    intro F
    induction F with
    | zero =>
      intro M v1 M1 hf kx
      cases hf
    | succ F ih =>
      intro M v1 M1 hf kx
      rw [l_X0_clear_2] at hf
      refine ga_il1 C eX0_clear_2 ?_
      refine ga_push C eX0_clear_3 ?_
      obtain ⟨g2, hf⟩ := gg_some hf
      refine ga_icmp_ge C eX0_clear_5 g2 (by decide) (fun hc => ?_) (fun hc => ?_)
      · rw [if_pos hc] at hf
        refine ga_al0 C eX0_clear_8 ?_
        refine ga_getR C hK eX0_clear_9 lRX0_9 (gk_pl ho0) rfl ?_
        refine ga_il1 C eX0_clear_12 ?_
        refine ga_push C eX0_clear_13 ?_
        obtain ⟨g4, hf⟩ := gg_some hf
        obtain ⟨M3, q3, hf⟩ := gB_some hf
        refine ga_iast C hK eX0_clear_14 (gk_pa0 ho0) (by decide) g4 q3 ?_
        refine ga_ii1 C eX0_clear_15 ?_
        refine ga_goto C eX0_clear_18 ?_
        refine ga_forget [true, true] rfl ?_
        exact ih _ _ _ hf kx
      · rw [if_neg hc] at hf
        cases hf
        exact ga_forget [true, false] rfl kx
  obtain ⟨M1, hl1, hf⟩ := gb_some hf
  refine ga_forget [true, true] rfl ?_
  refine L2 G _ _ _ hl1 ?_
  refine ga_al0 C eX0_clear_21 ?_
  refine ga_push C eX0_clear_22 ?_
  obtain ⟨M5, q5, hf⟩ := gB_some hf
  refine ga_putI C hK eX0_clear_23 lRX0_21 (by intro q hq; cases hq; exact ⟨rfl, rfl⟩) (gk_pl ho0) rfl q5 ?_
  refine ga_al0 C eX0_clear_26 ?_
  refine ga_push C eX0_clear_27 ?_
  obtain ⟨M6, q6, hf⟩ := gB_some hf
  refine ga_putI C hK eX0_clear_28 lRX0_25 (by intro q hq; cases hq; exact ⟨rfl, rfl⟩) (gk_pl ho0) rfl q6 ?_
  exact ga_vretW C T eX0_clear_31 hf

set_option maxRecDepth 20000 in
set_option maxHeartbeats 4000000 in
theorem t_X0_put {n e cp G : Nat} (hg : gh n e cp) {M Mz : gaM} {v1 v2 v3 v4 : Int} {o0 : Nat} (ho0 : o0 = 4 ∨ o0 = 5) (hf : f_X0_put G n M o0 v1 v2 v3 v4 = some Mz) : ga_Met yX0_put cX0_put 5 none 0 (gk n e cp) M [.inr (some o0), .inl v1, .inl v2, .inl v3, .inl v4] none Mz := by
  refine ga_met (by decide) rfl (Nat.le_of_ble_eq_true rfl) ?_
  intro X C hK T
  show ga_W X M 0 [some (.inr (some o0)), some (.inl v1), some (.inl v2), some (.inl v3), some (.inl v4)] []
  unfold f_X0_put at hf
  refine ga_al0 C eX0_put_0 ?_
  refine ga_getR C hK eX0_put_1 lRX0_9 (gk_pl ho0) rfl ?_
  refine ga_il1 C eX0_put_4 ?_
  refine ga_il2 C eX0_put_5 ?_
  obtain ⟨g2, hf⟩ := gg_some hf
  obtain ⟨M1, q1, hf⟩ := gB_some hf
  refine ga_iast C hK eX0_put_6 (gk_pa0 ho0) (by decide) g2 q1 ?_
  refine ga_al0 C eX0_put_7 ?_
  refine ga_getR C hK eX0_put_8 lRX0_15 (gk_pl ho0) rfl ?_
  refine ga_il1 C eX0_put_11 ?_
  refine ga_il3 C eX0_put_12 ?_
  obtain ⟨M3, q3, hf⟩ := gB_some hf
  refine ga_iast C hK eX0_put_13 (gk_pa1 ho0) (by decide) g2 q3 ?_
  refine ga_al0 C eX0_put_14 ?_
  refine ga_getR C hK eX0_put_15 lRX0_18 (gk_pl ho0) rfl ?_
  refine ga_il1 C eX0_put_18 ?_
  refine ga_il4 C eX0_put_19 ?_
  obtain ⟨M4, q4, hf⟩ := gB_some hf
  refine ga_iast C hK eX0_put_21 (gk_pa2 ho0) (by decide) g2 q4 ?_
  refine ga_al0 C eX0_put_22 ?_
  refine ga_dup C eX0_put_23 ?_
  refine ga_getI C hK eX0_put_24 lRX0_21 (gk_pl ho0) rfl ?_
  refine ga_push C eX0_put_27 ?_
  refine ga_iadd C eX0_put_28 ?_
  obtain ⟨M5, q5, hf⟩ := gB_some hf
  refine ga_putI C hK eX0_put_29 lRX0_21 (by intro q hq; cases hq; exact ⟨rfl, rfl⟩) (gk_pl ho0) rfl q5 ?_
  refine ga_al0 C eX0_put_32 ?_
  refine ga_dup C eX0_put_33 ?_
  refine ga_getI C hK eX0_put_34 lRX0_25 (gk_pl ho0) rfl ?_
  refine ga_il4 C eX0_put_37 ?_
  refine ga_iadd C eX0_put_39 ?_
  obtain ⟨M6, q6, hf⟩ := gB_some hf
  refine ga_putI C hK eX0_put_40 lRX0_25 (by intro q hq; cases hq; exact ⟨rfl, rfl⟩) (gk_pl ho0) rfl q6 ?_
  exact ga_vretW C T eX0_put_43 hf

set_option maxRecDepth 20000 in
set_option maxHeartbeats 4000000 in
theorem t_X0_has {n e cp G : Nat} (hg : gh n e cp) {M : gaM} {v1 : Int} {o0 : Nat} {rz : Int} (ho0 : o0 = 4 ∨ o0 = 5) (hf : f_X0_has G n M o0 v1 = some rz) : ga_Met yX0_has cX0_has 2 (some .boolean) 0 (gk n e cp) M [.inr (some o0), .inl v1] (some (.inl rz)) M := by
  refine ga_met (by decide) rfl (Nat.le_of_ble_eq_true rfl) ?_
  intro X C hK T
  show ga_W X M 0 [some (.inr (some o0)), some (.inl v1)] []
  unfold f_X0_has at hf
  refine ga_al0 C eX0_has_0 ?_
  refine ga_getR C hK eX0_has_1 lRX0_9 (gk_pl ho0) rfl ?_
  refine ga_il1 C eX0_has_4 ?_
  obtain ⟨g1, hf⟩ := gg_some hf
  refine ga_iald C hK eX0_has_5 (gk_pa0 ho0) (by decide) g1 ?_
  refine ga_push C eX0_has_6 ?_
  obtain ⟨g2, hf⟩ := gg_some hf
  refine ga_icmp_eq C eX0_has_7 g2 (by decide) (fun hc => ?_) (fun hc => ?_)
  · rw [if_pos hc] at hf
    refine ga_push C eX0_has_14 ?_
    exact ga_zret0 C T eX0_has_15 (by decide) hf
  · rw [if_neg hc] at hf
    refine ga_push C eX0_has_10 ?_
    refine ga_goto C eX0_has_11 ?_
    exact ga_zret0 C T eX0_has_15 (by decide) hf

set_option maxRecDepth 20000 in
set_option maxHeartbeats 4000000 in
theorem t_X0_tell {n e cp G : Nat} (hg : gh n e cp) {M : gaM} {v1 v2 : Int} {o0 : Nat} {rz : Int} (ho0 : o0 = 4 ∨ o0 = 5) (hf : f_X0_tell G n M o0 v1 v2 = some rz) : ga_Met yX0_tell cX0_tell 3 (some .int) 1 (gk n e cp) M [.inr (some o0), .inl v1, .inl v2] (some (.inl rz)) M := by
  refine ga_met (by decide) rfl (Nat.le_of_ble_eq_true rfl) ?_
  intro X C hK T
  show ga_W X M 0 [some (.inr (some o0)), some (.inl v1), some (.inl v2)] []
  unfold f_X0_tell at hf
  refine ga_al0 C eX0_tell_0 ?_
  refine ga_il1 C eX0_tell_1 ?_
  obtain ⟨r1, c1, hf⟩ := gb_some hf
  refine ga_cV1 C hK eX0_tell_2 nRX0_28 mX0_has vX0_has (gk_pl ho0) (t_X0_has hg ho0 c1) (by decide) (Nat.le_of_ble_eq_true rfl) ?_
  obtain ⟨g2, hf⟩ := gg_some hf
  refine ga_if_ne C eX0_tell_5 g2 (fun hc => ?_) (fun hc => ?_)
  · rw [if_pos hc] at hf
    refine ga_push C eX0_tell_8 ?_
    exact ga_iret0 C T eX0_tell_9 hf
  · rw [if_neg hc] at hf
    refine ga_il2 C eX0_tell_10 ?_
    obtain ⟨g3, hf⟩ := gg_some hf
    by_cases hc0 : v2 = 0
    · rw [if_pos hc0] at hf
      refine ga_tabIn 0 C eX0_tell_11 hc0 (by decide) (by decide) rfl (by decide) (tgt := 36) ?_
      refine ga_al0 C eX0_tell_36 ?_
      refine ga_getR C hK eX0_tell_37 lRX0_9 (gk_pl ho0) rfl ?_
      refine ga_il1 C eX0_tell_40 ?_
      obtain ⟨g4, hf⟩ := gg_some hf
      refine ga_iald C hK eX0_tell_41 (gk_pa0 ho0) (by decide) g4 ?_
      exact ga_iret0 C T eX0_tell_42 hf
    · rw [if_neg hc0] at hf
      by_cases hc1 : v2 = 1
      · rw [if_pos hc1] at hf
        refine ga_tabIn 1 C eX0_tell_11 hc1 (by decide) (by decide) rfl (by decide) (tgt := 43) ?_
        refine ga_al0 C eX0_tell_43 ?_
        refine ga_getR C hK eX0_tell_44 lRX0_15 (gk_pl ho0) rfl ?_
        refine ga_il1 C eX0_tell_47 ?_
        obtain ⟨g5, hf⟩ := gg_some hf
        refine ga_iald C hK eX0_tell_48 (gk_pa1 ho0) (by decide) g5 ?_
        exact ga_iret0 C T eX0_tell_49 hf
      · rw [if_neg hc1] at hf
        by_cases hc2 : v2 = 2
        · rw [if_pos hc2] at hf
          refine ga_tabIn 2 C eX0_tell_11 hc2 (by decide) (by decide) rfl (by decide) (tgt := 50) ?_
          refine ga_al0 C eX0_tell_50 ?_
          refine ga_getR C hK eX0_tell_51 lRX0_18 (gk_pl ho0) rfl ?_
          refine ga_il1 C eX0_tell_54 ?_
          obtain ⟨g6, hf⟩ := gg_some hf
          refine ga_iald C hK eX0_tell_55 (gk_pa2 ho0) (by decide) g6 ?_
          exact ga_iret0 C T eX0_tell_56 hf
        · rw [if_neg hc2] at hf
          refine ga_tabOut C eX0_tell_11 g3 (by omega) (by decide) (tgt := 57) ?_
          refine ga_push C eX0_tell_57 ?_
          exact ga_iret0 C T eX0_tell_58 hf

set_option maxRecDepth 20000 in
set_option maxHeartbeats 4000000 in
theorem t_X2_has {n e cp G : Nat} (hg : gh n e cp) {M : gaM} {v1 : Int} {rz : Int}  (hf : f_X2_has G n M v1 = some rz) : ga_Met yX2_has cX2_has 2 (some .boolean) 0 (gk n e cp) M [.inr (some 1), .inl v1] (some (.inl rz)) M := by
  refine ga_met (by decide) rfl (Nat.le_of_ble_eq_true rfl) ?_
  intro X C hK T
  show ga_W X M 0 [some (.inr (some 1)), some (.inl v1)] []
  unfold f_X2_has at hf
  refine ga_il1 C eX2_has_0 ?_
  obtain ⟨g1, hf⟩ := gg_some hf
  refine ga_if_lt C eX2_has_1 g1 (fun hc => ?_) (fun hc => ?_)
  · rw [if_pos hc] at hf
    refine ga_il1 C eX2_has_4 ?_
    refine ga_al0 C eX2_has_5 ?_
    refine ga_getI C hK eX2_has_6 lRX2_9 rfl rfl ?_
    obtain ⟨g2, hf⟩ := gg_some hf
    refine ga_icmp_ge C eX2_has_9 g1 g2 (fun hc => ?_) (fun hc => ?_)
    · rw [if_pos hc] at hf
      refine ga_push C eX2_has_12 ?_
      refine ga_goto C eX2_has_13 ?_
      exact ga_zret0 C T eX2_has_17 (by decide) hf
    · rw [if_neg hc] at hf
      refine ga_push C eX2_has_16 ?_
      exact ga_zret0 C T eX2_has_17 (by decide) hf
  · rw [if_neg hc] at hf
    refine ga_push C eX2_has_16 ?_
    exact ga_zret0 C T eX2_has_17 (by decide) hf

set_option maxRecDepth 20000 in
set_option maxHeartbeats 4000000 in
theorem t_X2_add {n e cp G : Nat} (hg : gh n e cp) {M Mz : gaM} {v1 : Int} {rz : Int}  (hf : f_X2_add G n M v1 = some (rz, Mz)) : ga_Met yX2_add cX2_add 4 (some .int) 0 (gk n e cp) M [.inr (some 1), .inl v1] (some (.inl rz)) Mz := by
  refine ga_met (by decide) rfl (Nat.le_of_ble_eq_true rfl) ?_
  intro X C hK T
  show ga_W X M 0 [some (.inr (some 1)), some (.inl v1), none, none] []
  unfold f_X2_add at hf
  refine ga_al0 C eX2_add_0 ?_
  refine ga_getI C hK eX2_add_1 lRX2_9 rfl rfl ?_
  refine ga_is2 C eX2_add_4 ?_
  refine ga_al0 C eX2_add_5 ?_
  refine ga_dup C eX2_add_6 ?_
  refine ga_getI C hK eX2_add_7 lRX2_9 rfl rfl ?_
  refine ga_push C eX2_add_10 ?_
  refine ga_iadd C eX2_add_11 ?_
  obtain ⟨M1, q1, hf⟩ := gB_some hf
  refine ga_putI C hK eX2_add_12 lRX2_9 (by intro q hq; cases hq; exact ⟨rfl, rfl⟩) rfl rfl q1 ?_
  refine ga_push C eX2_add_15 ?_
  refine ga_is3 C eX2_add_16 ?_
  have L17 : ∀ (F : Nat) (M : gaM) (v1 : Int) (v2 : Int) (v3 : Int) (M2 : gaM), l_X2_add_17 G n F M v1 v2 v3 = some M2 → ga_W X M2 50 [some (.inr (some 1)), none, some (.inl v2), none] [] → ga_W X M 17 [some (.inr (some 1)), some (.inl v1), some (.inl v2), some (.inl v3)] [] := by
    intro F
    induction F with
    | zero =>
      intro M v1 v2 v3 M2 hf kx
      cases hf
    | succ F ih =>
      intro M v1 v2 v3 M2 hf kx
      rw [l_X2_add_17] at hf
      refine ga_il3 C eX2_add_17 ?_
      refine ga_push C eX2_add_18 ?_
      obtain ⟨g3, hf⟩ := gg_some hf
      refine ga_icmp_ge C eX2_add_21 g3 (by decide) (fun hc => ?_) (fun hc => ?_)
      · rw [if_pos hc] at hf
        refine ga_al0 C eX2_add_24 ?_
        refine ga_getR C hK eX2_add_25 lRX2_20 rfl rfl ?_
        refine ga_il2 C eX2_add_28 ?_
        obtain ⟨g4, hf⟩ := gg_some hf
        refine ga_aald C hK eX2_add_29 rfl (Or.inl rfl) (by decide) g4 ?_
        refine ga_il3 C eX2_add_30 ?_
        refine ga_push C eX2_add_31 ?_
        obtain ⟨g6, hf⟩ := gg_some hf
        obtain ⟨M5, q5, hf⟩ := gB_some hf
        refine ga_iast C hK eX2_add_34 (gk_r20 g4) (by decide) g6 q5 ?_
        refine ga_al0 C eX2_add_35 ?_
        refine ga_getR C hK eX2_add_36 lRX2_23 rfl rfl ?_
        refine ga_il2 C eX2_add_39 ?_
        refine ga_aald C hK eX2_add_40 rfl (Or.inl rfl) (by decide) g4 ?_
        refine ga_il3 C eX2_add_41 ?_
        refine ga_il1 C eX2_add_42 ?_
        obtain ⟨M7, q7, hf⟩ := gB_some hf
        refine ga_iast C hK eX2_add_43 (gk_r30 g4) (by decide) g6 q7 ?_
        refine ga_ii3 C eX2_add_44 ?_
        refine ga_goto C eX2_add_47 ?_
        refine ga_forget [true, true, true, true] rfl ?_
        exact ih _ _ _ _ _ hf kx
      · rw [if_neg hc] at hf
        cases hf
        exact ga_forget [true, false, true, false] rfl kx
  obtain ⟨M2, hl2, hf⟩ := gb_some hf
  refine ga_forget [true, true, true, true] rfl ?_
  refine L17 G _ _ _ _ _ hl2 ?_
  refine ga_push C eX2_add_50 ?_
  refine ga_is3 C eX2_add_51 ?_
  have L52 : ∀ (F : Nat) (M : gaM) (v2 : Int) (v3 : Int) (M8 : gaM), l_X2_add_52 G n F M v2 v3 = some M8 → ga_W X M8 81 [none, none, some (.inl v2), none] [] → ga_W X M 52 [some (.inr (some 1)), none, some (.inl v2), some (.inl v3)] [] := by
    intro F
    induction F with
    | zero =>
      intro M v2 v3 M8 hf kx
      cases hf
    | succ F ih =>
      intro M v2 v3 M8 hf kx
      rw [l_X2_add_52] at hf
      refine ga_il3 C eX2_add_52 ?_
      refine ga_il2 C eX2_add_53 ?_
      obtain ⟨g9, hf⟩ := gg_some hf
      obtain ⟨g10, hf⟩ := gg_some hf
      refine ga_icmp_ge C eX2_add_54 g9 g10 (fun hc => ?_) (fun hc => ?_)
      · rw [if_pos hc] at hf
        refine ga_al0 C eX2_add_57 ?_
        refine ga_getR C hK eX2_add_58 lRX2_17 rfl rfl ?_
        refine ga_il2 C eX2_add_61 ?_
        obtain ⟨g11, hf⟩ := gg_some hf
        refine ga_aald C hK eX2_add_62 rfl (Or.inl rfl) (by decide) g11 ?_
        refine ga_il3 C eX2_add_63 ?_
        refine ga_push C eX2_add_64 ?_
        obtain ⟨g13, hf⟩ := gg_some hf
        obtain ⟨M12, q12, hf⟩ := gB_some hf
        refine ga_iast C hK eX2_add_65 (gk_r10 g11) (by decide) g13 q12 ?_
        refine ga_al0 C eX2_add_66 ?_
        refine ga_getR C hK eX2_add_67 lRX2_17 rfl rfl ?_
        refine ga_il3 C eX2_add_70 ?_
        refine ga_aald C hK eX2_add_71 rfl (Or.inl rfl) (by decide) g13 ?_
        refine ga_il2 C eX2_add_72 ?_
        refine ga_push C eX2_add_73 ?_
        obtain ⟨M14, q14, hf⟩ := gB_some hf
        refine ga_iast C hK eX2_add_74 (gk_r10 g13) (by decide) g11 q14 ?_
        refine ga_ii3 C eX2_add_75 ?_
        refine ga_goto C eX2_add_78 ?_
        refine ga_forget [true, false, true, true] rfl ?_
        exact ih _ _ _ _ hf kx
      · rw [if_neg hc] at hf
        cases hf
        exact ga_forget [false, false, true, false] rfl kx
  obtain ⟨M8, hl8, hf⟩ := gb_some hf
  refine ga_forget [true, false, true, true] rfl ?_
  refine L52 G _ _ _ _ hl8 ?_
  refine ga_il2 C eX2_add_81 ?_
  exact ga_iretW C T eX2_add_82 hf

set_option maxRecDepth 20000 in
set_option maxHeartbeats 4000000 in
theorem t_X2_carriage {n e cp G : Nat} (hg : gh n e cp) {M : gaM} {v2 : Int} {w1 : Nat} {rz : Int} (hw1 : gk n e cp w1 = some (.inr (.inl (4, gr_X4)))) (hf : f_X2_carriage G n M w1 v2 = some rz) : ga_Met yX2_carriage cX2_carriage 3 (some .int) 0 (gk n e cp) M [.inr (some 1), .inr (some w1), .inl v2] (some (.inl rz)) M := by
  refine ga_met (by decide) rfl (Nat.le_of_ble_eq_true rfl) ?_
  intro X C hK T
  show ga_W X M 0 [some (.inr (some 1)), some (.inr (some w1)), some (.inl v2)] []
  unfold f_X2_carriage at hf
  refine ga_al1 C eX2_carriage_0 ?_
  refine ga_getI C hK eX2_carriage_1 lRX2_26 hw1 rfl ?_
  refine ga_al0 C eX2_carriage_4 ?_
  refine ga_getR C hK eX2_carriage_5 lRX2_17 rfl rfl ?_
  refine ga_al1 C eX2_carriage_8 ?_
  refine ga_getI C hK eX2_carriage_9 lRX2_31 hw1 rfl ?_
  obtain ⟨g1, hf⟩ := gg_some hf
  refine ga_aald C hK eX2_carriage_12 rfl (Or.inl rfl) (by decide) g1 ?_
  refine ga_il2 C eX2_carriage_13 ?_
  obtain ⟨g2, hf⟩ := gg_some hf
  refine ga_iald C hK eX2_carriage_14 (gk_r10 g1) (by decide) g2 ?_
  refine ga_imul C eX2_carriage_15 ?_
  exact ga_iret0 C T eX2_carriage_16 hf

set_option maxRecDepth 20000 in
set_option maxHeartbeats 4000000 in
theorem t_X2_costOf {n e cp G : Nat} (hg : gh n e cp) {M : gaM} {v2 v3 : Int} {w1 : Nat} {rz : Int} (hw1 : gk n e cp w1 = some (.inr (.inl (4, gr_X4)))) (hf : f_X2_costOf G n M w1 v2 v3 = some rz) : ga_Met yX2_costOf cX2_costOf 6 (some .int) 1 (gk n e cp) M [.inr (some 1), .inr (some w1), .inl v2, .inl v3] (some (.inl rz)) M := by
  refine ga_met (by decide) rfl (Nat.le_of_ble_eq_true rfl) ?_
  intro X C hK T
  show ga_W X M 0 [some (.inr (some 1)), some (.inr (some w1)), some (.inl v2), some (.inl v3), none, none] []
  unfold f_X2_costOf at hf
  refine ga_al0 C eX2_costOf_0 ?_
  refine ga_al1 C eX2_costOf_1 ?_
  refine ga_il2 C eX2_costOf_2 ?_
  obtain ⟨r1, c1, hf⟩ := gb_some hf
  refine ga_cV2 C hK eX2_costOf_3 nRX2_34 mX2_carriage vX2_carriage rfl (t_X2_carriage hg hw1 c1) (by decide) (Nat.le_of_ble_eq_true rfl) ?_
  refine ga_is4 C eX2_costOf_6 ?_
  refine ga_il3 C eX2_costOf_8 ?_
  refine ga_is5 C eX2_costOf_9 ?_
  have L11 : ∀ (F : Nat) (v2 : Int) (v3 : Int) (v4 : Int) (v5 : Int) (x4_2 : Int), l_X2_costOf_11 G n w1 M F v2 v3 v4 v5 = some x4_2 → ga_W X M 42 [none, none, none, none, some (.inl x4_2), none] [] → ga_W X M 11 [some (.inr (some 1)), some (.inr (some w1)), some (.inl v2), some (.inl v3), some (.inl v4), some (.inl v5)] [] := by
    intro F
    induction F with
    | zero =>
      intro v2 v3 v4 v5 x4_2 hf kx
      cases hf
    | succ F ih =>
      intro v2 v3 v4 v5 x4_2 hf kx
      rw [l_X2_costOf_11] at hf
      refine ga_il5 C eX2_costOf_11 ?_
      refine ga_il3 C eX2_costOf_13 ?_
      refine ga_al1 C eX2_costOf_14 ?_
      refine ga_getI C hK eX2_costOf_15 lRX2_38 hw1 rfl ?_
      refine ga_iadd C eX2_costOf_18 ?_
      obtain ⟨g3, hf⟩ := gg_some hf
      obtain ⟨g4, hf⟩ := gg_some hf
      refine ga_icmp_ge C eX2_costOf_19 g3 g4 (fun hc => ?_) (fun hc => ?_)
      · rw [if_pos hc] at hf
        refine ga_il4 C eX2_costOf_22 ?_
        refine ga_al0 C eX2_costOf_24 ?_
        refine ga_getR C hK eX2_costOf_25 lRX2_20 rfl rfl ?_
        refine ga_il2 C eX2_costOf_28 ?_
        obtain ⟨g5, hf⟩ := gg_some hf
        refine ga_aald C hK eX2_costOf_29 rfl (Or.inl rfl) (by decide) g5 ?_
        refine ga_il5 C eX2_costOf_30 ?_
        obtain ⟨g6, hf⟩ := gg_some hf
        refine ga_iald C hK eX2_costOf_32 (gk_r20 g5) (by decide) g6 ?_
        refine ga_iadd C eX2_costOf_33 ?_
        refine ga_is4 C eX2_costOf_34 ?_
        refine ga_ii5 C eX2_costOf_36 ?_
        refine ga_goto C eX2_costOf_39 ?_
        refine ga_forget [true, true, true, true, true, true] rfl ?_
        exact ih _ _ _ _ _ hf kx
      · rw [if_neg hc] at hf
        cases hf
        exact ga_forget [false, false, false, false, true, false] rfl kx
  obtain ⟨x4_2, hl2, hf⟩ := gb_some hf
  refine ga_forget [true, true, true, true, true, true] rfl ?_
  refine L11 G _ _ _ _ _ hl2 ?_
  refine ga_il4 C eX2_costOf_42 ?_
  exact ga_iret0 C T eX2_costOf_44 hf

set_option maxRecDepth 20000 in
set_option maxHeartbeats 4000000 in
theorem t_X2_fits {n e cp G : Nat} (hg : gh n e cp) {M : gaM} {v1 v2 v3 : Int} {rz : Int}  (hf : f_X2_fits G n M v1 v2 v3 = some rz) : ga_Met yX2_fits cX2_fits 5 (some .boolean) 0 (gk n e cp) M [.inr (some 1), .inl v1, .inl v2, .inl v3] (some (.inl rz)) M := by
  refine ga_met (by decide) rfl (Nat.le_of_ble_eq_true rfl) ?_
  intro X C hK T
  show ga_W X M 0 [some (.inr (some 1)), some (.inl v1), some (.inl v2), some (.inl v3), none] []
  unfold f_X2_fits at hf
  refine ga_il2 C eX2_fits_0 ?_
  refine ga_is4 C eX2_fits_1 ?_
  have L3 : ∀ (F : Nat) (v1 : Int) (v2 : Int) (v3 : Int) (v4 : Int), l_X2_fits_3 G n M F v1 v2 v3 v4 = some rz → ga_W X M 3 [some (.inr (some 1)), some (.inl v1), some (.inl v2), some (.inl v3), some (.inl v4)] [] := by
    intro F
    induction F with
    | zero =>
      intro v1 v2 v3 v4 hf
      cases hf
    | succ F ih =>
      intro v1 v2 v3 v4 hf
      rw [l_X2_fits_3] at hf
      refine ga_il4 C eX2_fits_3 ?_
      refine ga_il2 C eX2_fits_5 ?_
      refine ga_il3 C eX2_fits_6 ?_
      refine ga_iadd C eX2_fits_7 ?_
      obtain ⟨g1, hf⟩ := gg_some hf
      obtain ⟨g2, hf⟩ := gg_some hf
      refine ga_icmp_ge C eX2_fits_8 g1 g2 (fun hc => ?_) (fun hc => ?_)
      · rw [if_pos hc] at hf
        refine ga_al0 C eX2_fits_11 ?_
        refine ga_getR C hK eX2_fits_12 lRX2_23 rfl rfl ?_
        refine ga_il1 C eX2_fits_15 ?_
        obtain ⟨g3, hf⟩ := gg_some hf
        refine ga_aald C hK eX2_fits_16 rfl (Or.inl rfl) (by decide) g3 ?_
        refine ga_il4 C eX2_fits_17 ?_
        obtain ⟨g4, hf⟩ := gg_some hf
        refine ga_iald C hK eX2_fits_19 (gk_r30 g3) (by decide) g4 ?_
        obtain ⟨g5, hf⟩ := gg_some hf
        refine ga_if_gt C eX2_fits_20 g5 (fun hc => ?_) (fun hc => ?_)
        · rw [if_pos hc] at hf
          refine ga_push C eX2_fits_23 ?_
          exact ga_zret0 C T eX2_fits_24 (by decide) hf
        · rw [if_neg hc] at hf
          refine ga_ii4 C eX2_fits_25 ?_
          refine ga_goto C eX2_fits_28 ?_
          refine ga_forget [true, true, true, true, true] rfl ?_
          exact ih _ _ _ _ hf
      · rw [if_neg hc] at hf
        refine ga_push C eX2_fits_31 ?_
        exact ga_zret0 C T eX2_fits_32 (by decide) hf
  refine ga_forget [true, true, true, true, true] rfl ?_
  exact L3 G _ _ _ _ hf

set_option maxRecDepth 20000 in
set_option maxHeartbeats 4000000 in
theorem t_X2_take {n e cp G : Nat} (hg : gh n e cp) {M Mz : gaM} {v1 v2 v3 : Int}  (hf : f_X2_take G n M v1 v2 v3 = some Mz) : ga_Met yX2_take cX2_take 5 none 0 (gk n e cp) M [.inr (some 1), .inl v1, .inl v2, .inl v3] none Mz := by
  refine ga_met (by decide) rfl (Nat.le_of_ble_eq_true rfl) ?_
  intro X C hK T
  show ga_W X M 0 [some (.inr (some 1)), some (.inl v1), some (.inl v2), some (.inl v3), none] []
  unfold f_X2_take at hf
  refine ga_il2 C eX2_take_0 ?_
  refine ga_is4 C eX2_take_1 ?_
  have L3 : ∀ (F : Nat) (M : gaM) (v1 : Int) (v2 : Int) (v3 : Int) (v4 : Int) (M1 : gaM), l_X2_take_3 G n F M v1 v2 v3 v4 = some M1 → ga_W X M1 30 [none, none, none, none, none] [] → ga_W X M 3 [some (.inr (some 1)), some (.inl v1), some (.inl v2), some (.inl v3), some (.inl v4)] [] := by
    intro F
    induction F with
    | zero =>
      intro M v1 v2 v3 v4 M1 hf kx
      cases hf
    | succ F ih =>
      intro M v1 v2 v3 v4 M1 hf kx
      rw [l_X2_take_3] at hf
      refine ga_il4 C eX2_take_3 ?_
      refine ga_il2 C eX2_take_5 ?_
      refine ga_il3 C eX2_take_6 ?_
      refine ga_iadd C eX2_take_7 ?_
      obtain ⟨g2, hf⟩ := gg_some hf
      obtain ⟨g3, hf⟩ := gg_some hf
      refine ga_icmp_ge C eX2_take_8 g2 g3 (fun hc => ?_) (fun hc => ?_)
      · rw [if_pos hc] at hf
        refine ga_al0 C eX2_take_11 ?_
        refine ga_getR C hK eX2_take_12 lRX2_23 rfl rfl ?_
        refine ga_il1 C eX2_take_15 ?_
        obtain ⟨g4, hf⟩ := gg_some hf
        refine ga_aald C hK eX2_take_16 rfl (Or.inl rfl) (by decide) g4 ?_
        refine ga_il4 C eX2_take_17 ?_
        refine ga_dup2 C eX2_take_19 ?_
        obtain ⟨g5, hf⟩ := gg_some hf
        refine ga_iald C hK eX2_take_20 (gk_r30 g4) (by decide) g5 ?_
        refine ga_push C eX2_take_21 ?_
        refine ga_isub C eX2_take_22 ?_
        obtain ⟨M6, q6, hf⟩ := gB_some hf
        refine ga_iast C hK eX2_take_23 (gk_r30 g4) (by decide) g5 q6 ?_
        refine ga_ii4 C eX2_take_24 ?_
        refine ga_goto C eX2_take_27 ?_
        refine ga_forget [true, true, true, true, true] rfl ?_
        exact ih _ _ _ _ _ _ hf kx
      · rw [if_neg hc] at hf
        cases hf
        exact ga_forget [false, false, false, false, false] rfl kx
  obtain ⟨M1, hl1, hf⟩ := gb_some hf
  refine ga_forget [true, true, true, true, true] rfl ?_
  refine L3 G _ _ _ _ _ _ hl1 ?_
  exact ga_vretW C T eX2_take_30 hf

set_option maxRecDepth 20000 in
set_option maxHeartbeats 4000000 in
theorem t_X2_giveBack {n e cp G : Nat} (hg : gh n e cp) {M Mz : gaM} {v1 v2 v3 : Int}  (hf : f_X2_giveBack G n M v1 v2 v3 = some Mz) : ga_Met yX2_giveBack cX2_giveBack 5 none 0 (gk n e cp) M [.inr (some 1), .inl v1, .inl v2, .inl v3] none Mz := by
  refine ga_met (by decide) rfl (Nat.le_of_ble_eq_true rfl) ?_
  intro X C hK T
  show ga_W X M 0 [some (.inr (some 1)), some (.inl v1), some (.inl v2), some (.inl v3), none] []
  unfold f_X2_giveBack at hf
  refine ga_il2 C eX2_giveBack_0 ?_
  refine ga_is4 C eX2_giveBack_1 ?_
  have L3 : ∀ (F : Nat) (M : gaM) (v1 : Int) (v2 : Int) (v3 : Int) (v4 : Int) (M1 : gaM), l_X2_giveBack_3 G n F M v1 v2 v3 v4 = some M1 → ga_W X M1 30 [none, none, none, none, none] [] → ga_W X M 3 [some (.inr (some 1)), some (.inl v1), some (.inl v2), some (.inl v3), some (.inl v4)] [] := by
    intro F
    induction F with
    | zero =>
      intro M v1 v2 v3 v4 M1 hf kx
      cases hf
    | succ F ih =>
      intro M v1 v2 v3 v4 M1 hf kx
      rw [l_X2_giveBack_3] at hf
      refine ga_il4 C eX2_giveBack_3 ?_
      refine ga_il2 C eX2_giveBack_5 ?_
      refine ga_il3 C eX2_giveBack_6 ?_
      refine ga_iadd C eX2_giveBack_7 ?_
      obtain ⟨g2, hf⟩ := gg_some hf
      obtain ⟨g3, hf⟩ := gg_some hf
      refine ga_icmp_ge C eX2_giveBack_8 g2 g3 (fun hc => ?_) (fun hc => ?_)
      · rw [if_pos hc] at hf
        refine ga_al0 C eX2_giveBack_11 ?_
        refine ga_getR C hK eX2_giveBack_12 lRX2_23 rfl rfl ?_
        refine ga_il1 C eX2_giveBack_15 ?_
        obtain ⟨g4, hf⟩ := gg_some hf
        refine ga_aald C hK eX2_giveBack_16 rfl (Or.inl rfl) (by decide) g4 ?_
        refine ga_il4 C eX2_giveBack_17 ?_
        refine ga_dup2 C eX2_giveBack_19 ?_
        obtain ⟨g5, hf⟩ := gg_some hf
        refine ga_iald C hK eX2_giveBack_20 (gk_r30 g4) (by decide) g5 ?_
        refine ga_push C eX2_giveBack_21 ?_
        refine ga_iadd C eX2_giveBack_22 ?_
        obtain ⟨M6, q6, hf⟩ := gB_some hf
        refine ga_iast C hK eX2_giveBack_23 (gk_r30 g4) (by decide) g5 q6 ?_
        refine ga_ii4 C eX2_giveBack_24 ?_
        refine ga_goto C eX2_giveBack_27 ?_
        refine ga_forget [true, true, true, true, true] rfl ?_
        exact ih _ _ _ _ _ _ hf kx
      · rw [if_neg hc] at hf
        cases hf
        exact ga_forget [false, false, false, false, false] rfl kx
  obtain ⟨M1, hl1, hf⟩ := gb_some hf
  refine ga_forget [true, true, true, true, true] rfl ?_
  refine L3 G _ _ _ _ _ _ hl1 ?_
  exact ga_vretW C T eX2_giveBack_30 hf

set_option maxRecDepth 20000 in
set_option maxHeartbeats 4000000 in
theorem t_X4_tell {n e cp G : Nat} (hg : gh n e cp) {M : gaM} {v1 : Int} {w0 : Nat} {rz : Int} (hw0 : gk n e cp w0 = some (.inr (.inl (4, gr_X4)))) (hf : f_X4_tell G n M w0 v1 = some rz) : ga_Met yX4_tell cX4_tell 2 (some .int) 0 (gk n e cp) M [.inr (some w0), .inl v1] (some (.inl rz)) M := by
  refine ga_met (by decide) rfl (Nat.le_of_ble_eq_true rfl) ?_
  intro X C hK T
  show ga_W X M 0 [some (.inr (some w0)), some (.inl v1)] []
  unfold f_X4_tell at hf
  refine ga_il1 C eX4_tell_0 ?_
  obtain ⟨g1, hf⟩ := gg_some hf
  by_cases hc0 : v1 = 0
  · rw [if_pos hc0] at hf
    refine ga_tabIn 0 C eX4_tell_1 hc0 (by decide) (by decide) rfl (by decide) (tgt := 56) ?_
    refine ga_al0 C eX4_tell_56 ?_
    refine ga_getI C hK eX4_tell_57 lRX4_30 hw0 rfl ?_
    exact ga_iret0 C T eX4_tell_60 hf
  · rw [if_neg hc0] at hf
    by_cases hc1 : v1 = 1
    · rw [if_pos hc1] at hf
      refine ga_tabIn 1 C eX4_tell_1 hc1 (by decide) (by decide) rfl (by decide) (tgt := 61) ?_
      refine ga_al0 C eX4_tell_61 ?_
      refine ga_getI C hK eX4_tell_62 lRX4_33 hw0 rfl ?_
      exact ga_iret0 C T eX4_tell_65 hf
    · rw [if_neg hc1] at hf
      by_cases hc2 : v1 = 2
      · rw [if_pos hc2] at hf
        refine ga_tabIn 2 C eX4_tell_1 hc2 (by decide) (by decide) rfl (by decide) (tgt := 66) ?_
        refine ga_al0 C eX4_tell_66 ?_
        refine ga_getI C hK eX4_tell_67 lRX4_36 hw0 rfl ?_
        exact ga_iret0 C T eX4_tell_70 hf
      · rw [if_neg hc2] at hf
        by_cases hc3 : v1 = 3
        · rw [if_pos hc3] at hf
          refine ga_tabIn 3 C eX4_tell_1 hc3 (by decide) (by decide) rfl (by decide) (tgt := 71) ?_
          refine ga_al0 C eX4_tell_71 ?_
          refine ga_getI C hK eX4_tell_72 lRX4_39 hw0 rfl ?_
          exact ga_iret0 C T eX4_tell_75 hf
        · rw [if_neg hc3] at hf
          by_cases hc4 : v1 = 4
          · rw [if_pos hc4] at hf
            refine ga_tabIn 4 C eX4_tell_1 hc4 (by decide) (by decide) rfl (by decide) (tgt := 76) ?_
            refine ga_al0 C eX4_tell_76 ?_
            refine ga_getI C hK eX4_tell_77 lRX4_9 hw0 rfl ?_
            exact ga_iret0 C T eX4_tell_80 hf
          · rw [if_neg hc4] at hf
            by_cases hc5 : v1 = 5
            · rw [if_pos hc5] at hf
              refine ga_tabIn 5 C eX4_tell_1 hc5 (by decide) (by decide) rfl (by decide) (tgt := 81) ?_
              refine ga_al0 C eX4_tell_81 ?_
              refine ga_getI C hK eX4_tell_82 lRX4_15 hw0 rfl ?_
              exact ga_iret0 C T eX4_tell_85 hf
            · rw [if_neg hc5] at hf
              by_cases hc6 : v1 = 6
              · rw [if_pos hc6] at hf
                refine ga_tabIn 6 C eX4_tell_1 hc6 (by decide) (by decide) rfl (by decide) (tgt := 86) ?_
                refine ga_al0 C eX4_tell_86 ?_
                refine ga_getI C hK eX4_tell_87 lRX4_18 hw0 rfl ?_
                exact ga_iret0 C T eX4_tell_90 hf
              · rw [if_neg hc6] at hf
                by_cases hc7 : v1 = 7
                · rw [if_pos hc7] at hf
                  refine ga_tabIn 7 C eX4_tell_1 hc7 (by decide) (by decide) rfl (by decide) (tgt := 91) ?_
                  refine ga_al0 C eX4_tell_91 ?_
                  refine ga_getI C hK eX4_tell_92 lRX4_21 hw0 rfl ?_
                  exact ga_iret0 C T eX4_tell_95 hf
                · rw [if_neg hc7] at hf
                  by_cases hc8 : v1 = 8
                  · rw [if_pos hc8] at hf
                    refine ga_tabIn 8 C eX4_tell_1 hc8 (by decide) (by decide) rfl (by decide) (tgt := 96) ?_
                    refine ga_al0 C eX4_tell_96 ?_
                    refine ga_getI C hK eX4_tell_97 lRX4_24 hw0 rfl ?_
                    exact ga_iret0 C T eX4_tell_100 hf
                  · rw [if_neg hc8] at hf
                    by_cases hc9 : v1 = 9
                    · rw [if_pos hc9] at hf
                      refine ga_tabIn 9 C eX4_tell_1 hc9 (by decide) (by decide) rfl (by decide) (tgt := 101) ?_
                      refine ga_al0 C eX4_tell_101 ?_
                      refine ga_getI C hK eX4_tell_102 lRX4_27 hw0 rfl ?_
                      exact ga_iret0 C T eX4_tell_105 hf
                    · rw [if_neg hc9] at hf
                      refine ga_tabOut C eX4_tell_1 g1 (by omega) (by decide) (tgt := 106) ?_
                      refine ga_push C eX4_tell_106 ?_
                      exact ga_iret0 C T eX4_tell_107 hf

set_option maxRecDepth 20000 in
set_option maxHeartbeats 4000000 in
theorem t_X1_fillRow {n e cp G : Nat} (hg : gh n e cp) {M Mz : gaM} {v3 v4 v5 : Int} {w2 : Nat} (hw2 : gk n e cp w2 = some (.inr (.inl (4, gr_X4)))) (hf : f_X1_fillRow G n M w2 v3 v4 v5 = some Mz) : ga_Met yX1_fillRow cX1_fillRow 14 none 1 (gk n e cp) M [.inr (some 6), .inr (some 1), .inr (some w2), .inl v3, .inl v4, .inl v5] none Mz := by
  refine ga_met (by decide) rfl (Nat.le_of_ble_eq_true rfl) ?_
  intro X C hK T
  show ga_W X M 0 [some (.inr (some 6)), some (.inr (some 1)), some (.inr (some w2)), some (.inl v3), some (.inl v4), some (.inl v5), none, none, none, none, none, none, none, none] []
  unfold f_X1_fillRow at hf
  refine ga_al1 C eX1_fillRow_0 ?_
  refine ga_getR C hK eX1_fillRow_1 lRX1_47 rfl rfl ?_
  refine ga_il3 C eX1_fillRow_4 ?_
  obtain ⟨g1, hf⟩ := gg_some hf
  refine ga_aald C hK eX1_fillRow_5 rfl (Or.inl rfl) (by decide) g1 ?_
  refine ga_as6 C eX1_fillRow_6 ?_
  refine ga_al1 C eX1_fillRow_8 ?_
  refine ga_getR C hK eX1_fillRow_9 lRX1_50 rfl rfl ?_
  refine ga_il3 C eX1_fillRow_12 ?_
  refine ga_aald C hK eX1_fillRow_13 rfl (Or.inl rfl) (by decide) g1 ?_
  refine ga_as7 C eX1_fillRow_14 ?_
  refine ga_al0 C eX1_fillRow_16 ?_
  refine ga_getR C hK eX1_fillRow_17 lRX1_11 rfl rfl ?_
  refine ga_il3 C eX1_fillRow_20 ?_
  refine ga_aald C hK eX1_fillRow_21 rfl (Or.inl rfl) (by decide) g1 ?_
  refine ga_as8 C eX1_fillRow_22 ?_
  refine ga_al2 C eX1_fillRow_24 ?_
  refine ga_getI C hK eX1_fillRow_25 lRX1_38 hw2 rfl ?_
  refine ga_is9 C eX1_fillRow_28 ?_
  refine ga_al1 C eX1_fillRow_30 ?_
  refine ga_al2 C eX1_fillRow_31 ?_
  refine ga_il3 C eX1_fillRow_32 ?_
  obtain ⟨r2, c2, hf⟩ := gb_some hf
  refine ga_cV2 C hK eX1_fillRow_33 nRX1_53 mX2_carriage vX2_carriage rfl (t_X2_carriage hg hw2 c2) (by decide) (Nat.le_of_ble_eq_true rfl) ?_
  refine ga_is10 C eX1_fillRow_36 ?_
  refine ga_push C eX1_fillRow_38 ?_
  refine ga_is11 C eX1_fillRow_39 ?_
  refine ga_al0 C eX1_fillRow_41 ?_
  refine ga_getI C hK eX1_fillRow_42 lRX1_20 rfl rfl ?_
  refine ga_is12 C eX1_fillRow_45 ?_
  have L47 : ∀ (F : Nat) (M : gaM) (v4 : Int) (v5 : Int) (z6 : Nat) (z7 : Nat) (z8 : Nat) (v9 : Int) (v10 : Int) (v11 : Int) (v12 : Int) (M3 : gaM), (hz6 : gk n e cp z6 = some (.inl 300)) → (hz7 : gk n e cp z7 = some (.inl 300)) → (hz8 : gk n e cp z8 = some (.inl 300)) → l_X1_fillRow_47 G n F M v4 v5 z6 z7 z8 v9 v10 v11 v12 = some M3 → ga_W X M3 150 [none, none, none, none, none, none, none, none, none, none, none, none, none, none] [] → ga_W X M 47 [some (.inr (some 6)), none, none, none, some (.inl v4), some (.inl v5), some (.inr (some z6)), some (.inr (some z7)), some (.inr (some z8)), some (.inl v9), some (.inl v10), some (.inl v11), some (.inl v12), none] [] := by
    intro F
    induction F with
    | zero =>
      intro M v4 v5 z6 z7 z8 v9 v10 v11 v12 M3 hz6 hz7 hz8 hf kx
      cases hf
    | succ F ih =>
      intro M v4 v5 z6 z7 z8 v9 v10 v11 v12 M3 hz6 hz7 hz8 hf kx
      rw [l_X1_fillRow_47] at hf
      refine ga_il12 C eX1_fillRow_47 ?_
      refine ga_il4 C eX1_fillRow_49 ?_
      obtain ⟨g4, hf⟩ := gg_some hf
      obtain ⟨g5, hf⟩ := gg_some hf
      refine ga_icmp_ge C eX1_fillRow_51 g4 g5 (fun hc => ?_) (fun hc => ?_)
      · rw [if_pos hc] at hf
        refine ga_il12 C eX1_fillRow_54 ?_
        refine ga_il9 C eX1_fillRow_56 ?_
        refine ga_isub C eX1_fillRow_58 ?_
        refine ga_push C eX1_fillRow_59 ?_
        refine ga_iadd C eX1_fillRow_60 ?_
        refine ga_is13 C eX1_fillRow_61 ?_
        refine ga_il10 C eX1_fillRow_63 ?_
        refine ga_al6 C eX1_fillRow_65 ?_
        refine ga_il12 C eX1_fillRow_67 ?_
        obtain ⟨g6, hf⟩ := gg_some hf
        refine ga_iald C hK eX1_fillRow_69 hz6 (by decide) g6 ?_
        refine ga_iadd C eX1_fillRow_70 ?_
        refine ga_is10 C eX1_fillRow_71 ?_
        refine ga_il13 C eX1_fillRow_73 ?_
        refine ga_al0 C eX1_fillRow_75 ?_
        refine ga_getI C hK eX1_fillRow_76 lRX1_20 rfl rfl ?_
        obtain ⟨g7, hf⟩ := gg_some hf
        obtain ⟨g8, hf⟩ := gg_some hf
        obtain ⟨x10_9, hx, hf⟩ := gb_some hf
        have kx9 : ga_W X M 94 [some (.inr (some 6)), none, none, none, some (.inl v4), some (.inl v5), some (.inr (some z6)), some (.inr (some z7)), some (.inr (some z8)), some (.inl v9), some (.inl x10_9), some (.inl v11), some (.inl v12), some (.inl ((v12 - v9) + 1))] [] := by
          refine ga_il5 C eX1_fillRow_94 ?_
          obtain ⟨g11, hf⟩ := gg_some hf
          obtain ⟨s0_12, hx, hf⟩ := gb_some hf
          have kx12 : ga_W X M 115 [some (.inr (some 6)), none, none, none, some (.inl v4), some (.inl v5), some (.inr (some z6)), some (.inr (some z7)), some (.inr (some z8)), some (.inl v9), some (.inl x10_9), none, some (.inl v12), some (.inl ((v12 - v9) + 1))] [.inl s0_12] := by
            refine ga_is11 C eX1_fillRow_115 ?_
            refine ga_il13 C eX1_fillRow_117 ?_
            refine ga_al0 C eX1_fillRow_119 ?_
            refine ga_getI C hK eX1_fillRow_120 lRX1_20 rfl rfl ?_
            obtain ⟨M14, hx, hf⟩ := gb_some hf
            have kx14 : ga_W X M14 144 [some (.inr (some 6)), none, none, none, some (.inl v4), some (.inl v5), some (.inr (some z6)), some (.inr (some z7)), some (.inr (some z8)), some (.inl v9), some (.inl x10_9), some (.inl s0_12), some (.inl v12), none] [] := by
              refine ga_ii12 C eX1_fillRow_144 ?_
              refine ga_goto C eX1_fillRow_147 ?_
              refine ga_forget [true, false, false, false, true, true, true, true, true, true, true, true, true, false] rfl ?_
              exact ih _ _ _ _ _ _ _ _ _ _ _ hz6 hz7 hz8 hf kx
            clear hf
            have hf := hx
            refine ga_icmp_lt C eX1_fillRow_123 g7 g8 (fun hc => ?_) (fun hc => ?_)
            · rw [if_pos hc] at hf
              refine ga_al8 C eX1_fillRow_126 ?_
              refine ga_il13 C eX1_fillRow_128 ?_
              refine ga_il11 C eX1_fillRow_130 ?_
              refine ga_il9 C eX1_fillRow_132 ?_
              obtain ⟨g15, hf⟩ := gg_some hf
              obtain ⟨g16, hf⟩ := gg_some hf
              obtain ⟨s0_17, hx, hf⟩ := gb_some hf
              have kx17 : ga_W X M 143 [some (.inr (some 6)), none, none, none, some (.inl v4), some (.inl v5), some (.inr (some z6)), some (.inr (some z7)), some (.inr (some z8)), some (.inl v9), some (.inl x10_9), some (.inl s0_12), some (.inl v12), none] [.inl s0_17, .inl ((v12 - v9) + 1), .inr (some z8)] := by
                obtain ⟨g19, hf⟩ := gg_some hf
                obtain ⟨M18, q18, hf⟩ := gB_some hf
                refine ga_iast C hK eX1_fillRow_143 hz8 (by decide) g19 q18 ?_
                cases hf
                exact ga_forget [true, false, false, false, true, true, true, true, true, true, true, true, true, false] rfl kx14
              clear hf
              have hf := hx
              refine ga_icmp_lt C eX1_fillRow_134 g15 g16 (fun hc => ?_) (fun hc => ?_)
              · rw [if_pos hc] at hf
                refine ga_il10 C eX1_fillRow_137 ?_
                refine ga_goto C eX1_fillRow_139 ?_
                cases hf
                exact ga_forget [true, false, false, false, true, true, true, true, true, true, true, true, true, false] rfl kx17
              · rw [if_neg hc] at hf
                refine ga_push C eX1_fillRow_142 ?_
                cases hf
                exact ga_forget [true, false, false, false, true, true, true, true, true, true, true, true, true, false] rfl kx17
            · rw [if_neg hc] at hf
              cases hf
              exact ga_forget [true, false, false, false, true, true, true, true, true, true, true, true, true, false] rfl kx14
          clear hf
          have hf := hx
          refine ga_if_ne C eX1_fillRow_96 g11 (fun hc => ?_) (fun hc => ?_)
          · rw [if_pos hc] at hf
            refine ga_al7 C eX1_fillRow_99 ?_
            refine ga_il12 C eX1_fillRow_101 ?_
            refine ga_iald C hK eX1_fillRow_103 hz7 (by decide) g6 ?_
            obtain ⟨g13, hf⟩ := gg_some hf
            refine ga_if_le C eX1_fillRow_104 g13 (fun hc => ?_) (fun hc => ?_)
            · rw [if_pos hc] at hf
              refine ga_il11 C eX1_fillRow_107 ?_
              refine ga_push C eX1_fillRow_109 ?_
              refine ga_iadd C eX1_fillRow_110 ?_
              refine ga_goto C eX1_fillRow_111 ?_
              cases hf
              exact ga_forget [true, false, false, false, true, true, true, true, true, true, true, false, true, true] rfl kx12
            · rw [if_neg hc] at hf
              refine ga_push C eX1_fillRow_114 ?_
              cases hf
              exact ga_forget [true, false, false, false, true, true, true, true, true, true, true, false, true, true] rfl kx12
          · rw [if_neg hc] at hf
            refine ga_il11 C eX1_fillRow_107 ?_
            refine ga_push C eX1_fillRow_109 ?_
            refine ga_iadd C eX1_fillRow_110 ?_
            refine ga_goto C eX1_fillRow_111 ?_
            cases hf
            exact ga_forget [true, false, false, false, true, true, true, true, true, true, true, false, true, true] rfl kx12
        clear hf
        have hf := hx
        refine ga_icmp_le C eX1_fillRow_79 g7 g8 (fun hc => ?_) (fun hc => ?_)
        · rw [if_pos hc] at hf
          refine ga_il10 C eX1_fillRow_82 ?_
          refine ga_al6 C eX1_fillRow_84 ?_
          refine ga_il13 C eX1_fillRow_86 ?_
          refine ga_push C eX1_fillRow_88 ?_
          refine ga_isub C eX1_fillRow_89 ?_
          obtain ⟨g10, hf⟩ := gg_some hf
          refine ga_iald C hK eX1_fillRow_90 hz6 (by decide) g10 ?_
          refine ga_isub C eX1_fillRow_91 ?_
          refine ga_is10 C eX1_fillRow_92 ?_
          cases hf
          exact ga_forget [true, false, false, false, true, true, true, true, true, true, true, true, true, true] rfl kx9
        · rw [if_neg hc] at hf
          cases hf
          exact ga_forget [true, false, false, false, true, true, true, true, true, true, true, true, true, true] rfl kx9
      · rw [if_neg hc] at hf
        cases hf
        exact ga_forget [false, false, false, false, false, false, false, false, false, false, false, false, false, false] rfl kx
  obtain ⟨M3, hl3, hf⟩ := gb_some hf
  refine ga_forget [true, false, false, false, true, true, true, true, true, true, true, true, true, false] rfl ?_
  refine L47 G _ _ _ _ _ _ _ _ _ _ _ (gk_r20 g1) (gk_r30 g1) (gk_r60 g1) hl3 ?_
  exact ga_vretW C T eX1_fillRow_150 hf

set_option maxRecDepth 20000 in
set_option maxHeartbeats 4000000 in
theorem t_X1_fill {n e cp G : Nat} (hg : gh n e cp) {M Mz : gaM} {v3 v4 v5 : Int} {w2 : Nat} (hw2 : gk n e cp w2 = some (.inr (.inl (4, gr_X4)))) (hf : f_X1_fill G n M w2 v3 v4 v5 = some Mz) : ga_Met yX1_fill cX1_fill 7 none 2 (gk n e cp) M [.inr (some 6), .inr (some 1), .inr (some w2), .inl v3, .inl v4, .inl v5] none Mz := by
  refine ga_met (by decide) rfl (Nat.le_of_ble_eq_true rfl) ?_
  intro X C hK T
  show ga_W X M 0 [some (.inr (some 6)), some (.inr (some 1)), some (.inr (some w2)), some (.inl v3), some (.inl v4), some (.inl v5), none] []
  unfold f_X1_fill at hf
  refine ga_al0 C eX1_fill_0 ?_
  refine ga_al1 C eX1_fill_1 ?_
  refine ga_getI C hK eX1_fill_2 lRX1_35 rfl rfl ?_
  obtain ⟨M1, q1, hf⟩ := gB_some hf
  refine ga_putI C hK eX1_fill_5 lRX1_16 (by intro q hq; cases hq; exact ⟨rfl, rfl⟩) rfl rfl q1 ?_
  refine ga_al0 C eX1_fill_8 ?_
  refine ga_il3 C eX1_fill_9 ?_
  obtain ⟨M2, q2, hf⟩ := gB_some hf
  refine ga_putI C hK eX1_fill_10 lRX1_20 (by intro q hq; cases hq; exact ⟨rfl, rfl⟩) rfl rfl q2 ?_
  refine ga_al0 C eX1_fill_13 ?_
  refine ga_il4 C eX1_fill_14 ?_
  refine ga_al2 C eX1_fill_16 ?_
  refine ga_getI C hK eX1_fill_17 lRX1_38 hw2 rfl ?_
  refine ga_isub C eX1_fill_20 ?_
  obtain ⟨M3, q3, hf⟩ := gB_some hf
  refine ga_putI C hK eX1_fill_21 lRX1_23 (by intro q hq; cases hq; exact ⟨rfl, rfl⟩) rfl rfl q3 ?_
  refine ga_push C eX1_fill_24 ?_
  refine ga_is6 C eX1_fill_25 ?_
  have L27 : ∀ (F : Nat) (M : gaM) (v4 : Int) (v5 : Int) (v6 : Int) (M4 : gaM), l_X1_fill_27 G n w2 F M v4 v5 v6 = some M4 → ga_W X M4 54 [none, none, none, none, none, none, none] [] → ga_W X M 27 [some (.inr (some 6)), some (.inr (some 1)), some (.inr (some w2)), none, some (.inl v4), some (.inl v5), some (.inl v6)] [] := by
    intro F
    induction F with
    | zero =>
      intro M v4 v5 v6 M4 hf kx
      cases hf
    | succ F ih =>
      intro M v4 v5 v6 M4 hf kx
      rw [l_X1_fill_27] at hf
      refine ga_il6 C eX1_fill_27 ?_
      refine ga_al0 C eX1_fill_29 ?_
      refine ga_getI C hK eX1_fill_30 lRX1_16 rfl rfl ?_
      obtain ⟨g5, hf⟩ := gg_some hf
      obtain ⟨g6, hf⟩ := gg_some hf
      refine ga_icmp_ge C eX1_fill_33 g5 g6 (fun hc => ?_) (fun hc => ?_)
      · rw [if_pos hc] at hf
        refine ga_al0 C eX1_fill_36 ?_
        refine ga_al1 C eX1_fill_37 ?_
        refine ga_al2 C eX1_fill_38 ?_
        refine ga_il6 C eX1_fill_39 ?_
        refine ga_il4 C eX1_fill_41 ?_
        refine ga_il5 C eX1_fill_43 ?_
        obtain ⟨M7, c7, hf⟩ := gb_some hf
        refine ga_cV5 C hK eX1_fill_45 nRX1_43 mX1_fillRow vX1_fillRow rfl (t_X1_fillRow hg hw2 c7) (by decide) (Nat.le_of_ble_eq_true rfl) ?_
        refine ga_ii6 C eX1_fill_48 ?_
        refine ga_goto C eX1_fill_51 ?_
        refine ga_forget [true, true, true, false, true, true, true] rfl ?_
        exact ih _ _ _ _ _ hf kx
      · rw [if_neg hc] at hf
        cases hf
        exact ga_forget [false, false, false, false, false, false, false] rfl kx
  obtain ⟨M4, hl4, hf⟩ := gb_some hf
  refine ga_forget [true, true, true, false, true, true, true] rfl ?_
  refine L27 G _ _ _ _ _ hl4 ?_
  exact ga_vretW C T eX1_fill_54 hf

set_option maxRecDepth 20000 in
set_option maxHeartbeats 4000000 in
theorem t_X1_pickAt {n e cp G : Nat} (hg : gh n e cp) {M Mz : gaM} {v1 : Int}  (hf : f_X1_pickAt G n M v1 = some Mz) : ga_Met yX1_pickAt cX1_pickAt 4 none 0 (gk n e cp) M [.inr (some 6), .inl v1] none Mz := by
  refine ga_met (by decide) rfl (Nat.le_of_ble_eq_true rfl) ?_
  intro X C hK T
  show ga_W X M 0 [some (.inr (some 6)), some (.inl v1), none, none] []
  unfold f_X1_pickAt at hf
  refine ga_push C eX1_pickAt_0 ?_
  refine ga_is2 C eX1_pickAt_1 ?_
  have L2 : ∀ (F : Nat) (M : gaM) (v1 : Int) (v2 : Int) (M1 : gaM), l_X1_pickAt_2 G n F M v1 v2 = some M1 → ga_W X M1 61 [none, none, none, none] [] → ga_W X M 2 [some (.inr (some 6)), some (.inl v1), some (.inl v2), none] [] := by
    intro F
    induction F with
    | zero =>
      intro M v1 v2 M1 hf kx
      cases hf
    | succ F ih =>
      intro M v1 v2 M1 hf kx
      rw [l_X1_pickAt_2] at hf
      refine ga_il2 C eX1_pickAt_2 ?_
      refine ga_al0 C eX1_pickAt_3 ?_
      refine ga_getI C hK eX1_pickAt_4 lRX1_16 rfl rfl ?_
      obtain ⟨g2, hf⟩ := gg_some hf
      obtain ⟨g3, hf⟩ := gg_some hf
      refine ga_icmp_ge C eX1_pickAt_7 g2 g3 (fun hc => ?_) (fun hc => ?_)
      · rw [if_pos hc] at hf
        refine ga_al0 C eX1_pickAt_10 ?_
        refine ga_getR C hK eX1_pickAt_11 lRX1_11 rfl rfl ?_
        refine ga_il2 C eX1_pickAt_14 ?_
        obtain ⟨g4, hf⟩ := gg_some hf
        refine ga_aald C hK eX1_pickAt_15 rfl (Or.inl rfl) (by decide) g4 ?_
        refine ga_il1 C eX1_pickAt_16 ?_
        obtain ⟨g5, hf⟩ := gg_some hf
        refine ga_iald C hK eX1_pickAt_17 (gk_r60 g4) (by decide) g5 ?_
        refine ga_is3 C eX1_pickAt_18 ?_
        refine ga_il3 C eX1_pickAt_19 ?_
        refine ga_push C eX1_pickAt_20 ?_
        obtain ⟨g6, hf⟩ := gg_some hf
        obtain ⟨M7, hx, hf⟩ := gb_some hf
        have kx7 : ga_W X M7 55 [some (.inr (some 6)), some (.inl v1), some (.inl v2), none] [] := by
          refine ga_ii2 C eX1_pickAt_55 ?_
          refine ga_goto C eX1_pickAt_58 ?_
          refine ga_forget [true, true, true, false] rfl ?_
          exact ih _ _ _ _ hf kx
        clear hf
        have hf := hx
        refine ga_icmp_eq C eX1_pickAt_21 g6 (by decide) (fun hc => ?_) (fun hc => ?_)
        · rw [if_pos hc] at hf
          cases hf
          exact ga_forget [true, true, true, false] rfl kx7
        · rw [if_neg hc] at hf
          refine ga_al0 C eX1_pickAt_24 ?_
          refine ga_getI C hK eX1_pickAt_25 lRX1_32 rfl rfl ?_
          refine ga_push C eX1_pickAt_28 ?_
          obtain ⟨g8, hf⟩ := gg_some hf
          refine ga_icmp_eq C eX1_pickAt_29 g8 (by decide) (fun hc => ?_) (fun hc => ?_)
          · rw [if_pos hc] at hf
            refine ga_al0 C eX1_pickAt_40 ?_
            refine ga_il2 C eX1_pickAt_41 ?_
            obtain ⟨M9, q9, hf⟩ := gB_some hf
            refine ga_putI C hK eX1_pickAt_42 lRX1_26 (by intro q hq; cases hq; exact ⟨rfl, rfl⟩) rfl rfl q9 ?_
            refine ga_al0 C eX1_pickAt_45 ?_
            refine ga_il1 C eX1_pickAt_46 ?_
            obtain ⟨M10, q10, hf⟩ := gB_some hf
            refine ga_putI C hK eX1_pickAt_47 lRX1_29 (by intro q hq; cases hq; exact ⟨rfl, rfl⟩) rfl rfl q10 ?_
            refine ga_al0 C eX1_pickAt_50 ?_
            refine ga_il3 C eX1_pickAt_51 ?_
            obtain ⟨M11, q11, hf⟩ := gB_some hf
            refine ga_putI C hK eX1_pickAt_52 lRX1_32 (by intro q hq; cases hq; exact ⟨rfl, rfl⟩) rfl rfl q11 ?_
            cases hf
            exact ga_forget [true, true, true, false] rfl kx7
          · rw [if_neg hc] at hf
            refine ga_il3 C eX1_pickAt_32 ?_
            refine ga_al0 C eX1_pickAt_33 ?_
            refine ga_getI C hK eX1_pickAt_34 lRX1_32 rfl rfl ?_
            refine ga_icmp_ge C eX1_pickAt_37 g6 g8 (fun hc => ?_) (fun hc => ?_)
            · rw [if_pos hc] at hf
              refine ga_al0 C eX1_pickAt_40 ?_
              refine ga_il2 C eX1_pickAt_41 ?_
              obtain ⟨M12, q12, hf⟩ := gB_some hf
              refine ga_putI C hK eX1_pickAt_42 lRX1_26 (by intro q hq; cases hq; exact ⟨rfl, rfl⟩) rfl rfl q12 ?_
              refine ga_al0 C eX1_pickAt_45 ?_
              refine ga_il1 C eX1_pickAt_46 ?_
              obtain ⟨M13, q13, hf⟩ := gB_some hf
              refine ga_putI C hK eX1_pickAt_47 lRX1_29 (by intro q hq; cases hq; exact ⟨rfl, rfl⟩) rfl rfl q13 ?_
              refine ga_al0 C eX1_pickAt_50 ?_
              refine ga_il3 C eX1_pickAt_51 ?_
              obtain ⟨M14, q14, hf⟩ := gB_some hf
              refine ga_putI C hK eX1_pickAt_52 lRX1_32 (by intro q hq; cases hq; exact ⟨rfl, rfl⟩) rfl rfl q14 ?_
              cases hf
              exact ga_forget [true, true, true, false] rfl kx7
            · rw [if_neg hc] at hf
              cases hf
              exact ga_forget [true, true, true, false] rfl kx7
      · rw [if_neg hc] at hf
        cases hf
        exact ga_forget [false, false, false, false] rfl kx
  obtain ⟨M1, hl1, hf⟩ := gb_some hf
  refine ga_forget [true, true, true, false] rfl ?_
  refine L2 G _ _ _ _ hl1 ?_
  exact ga_vretW C T eX1_pickAt_61 hf

set_option maxRecDepth 20000 in
set_option maxHeartbeats 4000000 in
theorem t_X1_pickCheapest {n e cp G : Nat} (hg : gh n e cp) {M Mz : gaM}  (hf : f_X1_pickCheapest G n M = some Mz) : ga_Met yX1_pickCheapest cX1_pickCheapest 2 none 1 (gk n e cp) M [.inr (some 6)] none Mz := by
  refine ga_met (by decide) rfl (Nat.le_of_ble_eq_true rfl) ?_
  intro X C hK T
  show ga_W X M 0 [some (.inr (some 6)), none] []
  unfold f_X1_pickCheapest at hf
  refine ga_al0 C eX1_pickCheapest_0 ?_
  refine ga_push C eX1_pickCheapest_1 ?_
  obtain ⟨M1, q1, hf⟩ := gB_some hf
  refine ga_putI C hK eX1_pickCheapest_2 lRX1_32 (by intro q hq; cases hq; exact ⟨rfl, rfl⟩) rfl rfl q1 ?_
  refine ga_al0 C eX1_pickCheapest_5 ?_
  refine ga_getI C hK eX1_pickCheapest_6 lRX1_20 rfl rfl ?_
  refine ga_is1 C eX1_pickCheapest_9 ?_
  have L10 : ∀ (F : Nat) (M : gaM) (v1 : Int) (M2 : gaM), l_X1_pickCheapest_10 G n F M v1 = some M2 → ga_W X M2 29 [none, none] [] → ga_W X M 10 [some (.inr (some 6)), some (.inl v1)] [] := by
    intro F
    induction F with
    | zero =>
      intro M v1 M2 hf kx
      cases hf
    | succ F ih =>
      intro M v1 M2 hf kx
      rw [l_X1_pickCheapest_10] at hf
      refine ga_il1 C eX1_pickCheapest_10 ?_
      refine ga_al0 C eX1_pickCheapest_11 ?_
      refine ga_getI C hK eX1_pickCheapest_12 lRX1_23 rfl rfl ?_
      obtain ⟨g3, hf⟩ := gg_some hf
      obtain ⟨g4, hf⟩ := gg_some hf
      refine ga_icmp_gt C eX1_pickCheapest_15 g3 g4 (fun hc => ?_) (fun hc => ?_)
      · rw [if_pos hc] at hf
        refine ga_al0 C eX1_pickCheapest_18 ?_
        refine ga_il1 C eX1_pickCheapest_19 ?_
        obtain ⟨M5, c5, hf⟩ := gb_some hf
        refine ga_cV1 C hK eX1_pickCheapest_20 nRX1_57 mX1_pickAt vX1_pickAt rfl (t_X1_pickAt hg c5) (by decide) (Nat.le_of_ble_eq_true rfl) ?_
        refine ga_ii1 C eX1_pickCheapest_23 ?_
        refine ga_goto C eX1_pickCheapest_26 ?_
        refine ga_forget [true, true] rfl ?_
        exact ih _ _ _ hf kx
      · rw [if_neg hc] at hf
        cases hf
        exact ga_forget [false, false] rfl kx
  obtain ⟨M2, hl2, hf⟩ := gb_some hf
  refine ga_forget [true, true] rfl ?_
  refine L10 G _ _ _ hl2 ?_
  exact ga_vretW C T eX1_pickCheapest_29 hf

set_option maxRecDepth 20000 in
set_option maxHeartbeats 4000000 in
theorem t_X1_pickSoonest {n e cp G : Nat} (hg : gh n e cp) {M Mz : gaM}  (hf : f_X1_pickSoonest G n M = some Mz) : ga_Met yX1_pickSoonest cX1_pickSoonest 2 none 1 (gk n e cp) M [.inr (some 6)] none Mz := by
  refine ga_met (by decide) rfl (Nat.le_of_ble_eq_true rfl) ?_
  intro X C hK T
  show ga_W X M 0 [some (.inr (some 6)), none] []
  unfold f_X1_pickSoonest at hf
  refine ga_al0 C eX1_pickSoonest_0 ?_
  refine ga_push C eX1_pickSoonest_1 ?_
  obtain ⟨M1, q1, hf⟩ := gB_some hf
  refine ga_putI C hK eX1_pickSoonest_2 lRX1_32 (by intro q hq; cases hq; exact ⟨rfl, rfl⟩) rfl rfl q1 ?_
  refine ga_al0 C eX1_pickSoonest_5 ?_
  refine ga_getI C hK eX1_pickSoonest_6 lRX1_20 rfl rfl ?_
  refine ga_is1 C eX1_pickSoonest_9 ?_
  have L10 : ∀ (F : Nat) (M : gaM) (v1 : Int) (M2 : gaM), l_X1_pickSoonest_10 G n F M v1 = some M2 → ga_W X M2 37 [none, none] [] → ga_W X M 10 [some (.inr (some 6)), some (.inl v1)] [] := by
    intro F
    induction F with
    | zero =>
      intro M v1 M2 hf kx
      cases hf
    | succ F ih =>
      intro M v1 M2 hf kx
      rw [l_X1_pickSoonest_10] at hf
      refine ga_il1 C eX1_pickSoonest_10 ?_
      refine ga_al0 C eX1_pickSoonest_11 ?_
      refine ga_getI C hK eX1_pickSoonest_12 lRX1_23 rfl rfl ?_
      obtain ⟨g3, hf⟩ := gg_some hf
      obtain ⟨g4, hf⟩ := gg_some hf
      refine ga_icmp_gt C eX1_pickSoonest_15 g3 g4 (fun hc => ?_) (fun hc => ?_)
      · rw [if_pos hc] at hf
        refine ga_al0 C eX1_pickSoonest_18 ?_
        refine ga_getI C hK eX1_pickSoonest_19 lRX1_32 rfl rfl ?_
        refine ga_push C eX1_pickSoonest_22 ?_
        obtain ⟨g5, hf⟩ := gg_some hf
        refine ga_icmp_ne C eX1_pickSoonest_23 g5 (by decide) (fun hc => ?_) (fun hc => ?_)
        · rw [if_pos hc] at hf
          refine ga_al0 C eX1_pickSoonest_26 ?_
          refine ga_il1 C eX1_pickSoonest_27 ?_
          obtain ⟨M6, c6, hf⟩ := gb_some hf
          refine ga_cV1 C hK eX1_pickSoonest_28 nRX1_57 mX1_pickAt vX1_pickAt rfl (t_X1_pickAt hg c6) (by decide) (Nat.le_of_ble_eq_true rfl) ?_
          refine ga_ii1 C eX1_pickSoonest_31 ?_
          refine ga_goto C eX1_pickSoonest_34 ?_
          refine ga_forget [true, true] rfl ?_
          exact ih _ _ _ hf kx
        · rw [if_neg hc] at hf
          cases hf
          exact ga_forget [false, false] rfl kx
      · rw [if_neg hc] at hf
        cases hf
        exact ga_forget [false, false] rfl kx
  obtain ⟨M2, hl2, hf⟩ := gb_some hf
  refine ga_forget [true, true] rfl ?_
  refine L10 G _ _ _ hl2 ?_
  exact ga_vretW C T eX1_pickSoonest_37 hf

set_option maxRecDepth 20000 in
set_option maxHeartbeats 4000000 in
theorem t_X3_clear {n e cp G : Nat} (hg : gh n e cp) {M Mz : gaM}  (hf : f_X3_clear G n M = some Mz) : ga_Met yX3_clear cX3_clear 1 none 0 (gk n e cp) M [.inr (some 7)] none Mz := by
  refine ga_met (by decide) rfl (Nat.le_of_ble_eq_true rfl) ?_
  intro X C hK T
  show ga_W X M 0 [some (.inr (some 7))] []
  unfold f_X3_clear at hf
  refine ga_al0 C eX3_clear_0 ?_
  refine ga_push C eX3_clear_1 ?_
  obtain ⟨M1, q1, hf⟩ := gB_some hf
  refine ga_putI C hK eX3_clear_2 lRX3_29 (by intro q hq; cases hq; exact ⟨rfl, rfl⟩) rfl rfl q1 ?_
  exact ga_vretW C T eX3_clear_5 hf

set_option maxRecDepth 20000 in
set_option maxHeartbeats 4000000 in
theorem t_X3_keep {n e cp G : Nat} (hg : gh n e cp) {M Mz : gaM} {v1 v2 v3 v4 : Int}  (hf : f_X3_keep G n M v1 v2 v3 v4 = some Mz) : ga_Met yX3_keep cX3_keep 6 none 0 (gk n e cp) M [.inr (some 7), .inl v1, .inl v2, .inl v3, .inl v4] none Mz := by
  refine ga_met (by decide) rfl (Nat.le_of_ble_eq_true rfl) ?_
  intro X C hK T
  show ga_W X M 0 [some (.inr (some 7)), some (.inl v1), some (.inl v2), some (.inl v3), some (.inl v4), none] []
  unfold f_X3_keep at hf
  refine ga_al0 C eX3_keep_0 ?_
  refine ga_getR C hK eX3_keep_1 lRX3_22 rfl rfl ?_
  refine ga_il1 C eX3_keep_4 ?_
  obtain ⟨g1, hf⟩ := gg_some hf
  refine ga_iald C hK eX3_keep_5 rfl (by decide) g1 ?_
  refine ga_is5 C eX3_keep_6 ?_
  refine ga_il5 C eX3_keep_8 ?_
  refine ga_push C eX3_keep_10 ?_
  obtain ⟨g2, hf⟩ := gg_some hf
  refine ga_icmp_ne C eX3_keep_12 g2 (by decide) (fun hc => ?_) (fun hc => ?_)
  · rw [if_pos hc] at hf
    refine ga_il4 C eX3_keep_15 ?_
    refine ga_al0 C eX3_keep_17 ?_
    refine ga_getR C hK eX3_keep_18 lRX3_19 rfl rfl ?_
    refine ga_il1 C eX3_keep_21 ?_
    refine ga_aald C hK eX3_keep_22 rfl (Or.inl rfl) (by decide) g1 ?_
    refine ga_push C eX3_keep_23 ?_
    obtain ⟨g3, hf⟩ := gg_some hf
    refine ga_iald C hK eX3_keep_25 (gk_r78 g1) (by decide) g3 ?_
    obtain ⟨g4, hf⟩ := gg_some hf
    obtain ⟨g5, hf⟩ := gg_some hf
    refine ga_icmp_lt C eX3_keep_26 g4 g5 (fun hc => ?_) (fun hc => ?_)
    · rw [if_pos hc] at hf
      exact ga_vretW C T eX3_keep_29 hf
    · rw [if_neg hc] at hf
      refine ga_push C eX3_keep_30 ?_
      refine ga_is5 C eX3_keep_32 ?_
      refine ga_goto C eX3_keep_34 ?_
      have L47 : ∀ (F : Nat) (M : gaM) (v1 : Int) (v2 : Int) (v3 : Int) (v4 : Int) (v5 : Int) (M6 : gaM) (x5_6 : Int), l_X3_keep_47 G n F M v1 v2 v3 v4 v5 = some (M6, x5_6) → ga_W X M6 134 [some (.inr (some 7)), some (.inl v1), some (.inl v2), some (.inl v3), some (.inl v4), some (.inl x5_6)] [] → ga_W X M 47 [some (.inr (some 7)), some (.inl v1), some (.inl v2), some (.inl v3), some (.inl v4), some (.inl v5)] [] := by
        intro F
        induction F with
        | zero =>
          intro M v1 v2 v3 v4 v5 M6 x5_6 hf kx
          cases hf
        | succ F ih =>
          intro M v1 v2 v3 v4 v5 M6 x5_6 hf kx
          rw [l_X3_keep_47] at hf
          refine ga_il5 C eX3_keep_47 ?_
          obtain ⟨g7, hf⟩ := gg_some hf
          refine ga_if_le C eX3_keep_49 g7 (fun hc => ?_) (fun hc => ?_)
          · rw [if_pos hc] at hf
            refine ga_al0 C eX3_keep_52 ?_
            refine ga_getR C hK eX3_keep_53 lRX3_19 rfl rfl ?_
            refine ga_il1 C eX3_keep_56 ?_
            obtain ⟨g8, hf⟩ := gg_some hf
            refine ga_aald C hK eX3_keep_57 rfl (Or.inl rfl) (by decide) g8 ?_
            refine ga_il5 C eX3_keep_58 ?_
            refine ga_push C eX3_keep_60 ?_
            refine ga_isub C eX3_keep_61 ?_
            obtain ⟨g9, hf⟩ := gg_some hf
            refine ga_iald C hK eX3_keep_62 (gk_r78 g8) (by decide) g9 ?_
            refine ga_il4 C eX3_keep_63 ?_
            obtain ⟨g10, hf⟩ := gg_some hf
            obtain ⟨g11, hf⟩ := gg_some hf
            refine ga_icmp_le C eX3_keep_65 g10 g11 (fun hc => ?_) (fun hc => ?_)
            · rw [if_pos hc] at hf
              refine ga_al0 C eX3_keep_68 ?_
              refine ga_getR C hK eX3_keep_69 lRX3_13 rfl rfl ?_
              refine ga_il1 C eX3_keep_72 ?_
              refine ga_aald C hK eX3_keep_73 rfl (Or.inl rfl) (by decide) g8 ?_
              refine ga_il5 C eX3_keep_74 ?_
              refine ga_al0 C eX3_keep_76 ?_
              refine ga_getR C hK eX3_keep_77 lRX3_13 rfl rfl ?_
              refine ga_il1 C eX3_keep_80 ?_
              refine ga_aald C hK eX3_keep_81 rfl (Or.inl rfl) (by decide) g8 ?_
              refine ga_il5 C eX3_keep_82 ?_
              refine ga_push C eX3_keep_84 ?_
              refine ga_isub C eX3_keep_85 ?_
              refine ga_iald C hK eX3_keep_86 (gk_r70 g8) (by decide) g9 ?_
              obtain ⟨g13, hf⟩ := gg_some hf
              obtain ⟨M12, q12, hf⟩ := gB_some hf
              refine ga_iast C hK eX3_keep_87 (gk_r70 g8) (by decide) g13 q12 ?_
              refine ga_al0 C eX3_keep_88 ?_
              refine ga_getR C hK eX3_keep_89 lRX3_16 rfl rfl ?_
              refine ga_il1 C eX3_keep_92 ?_
              refine ga_aald C hK eX3_keep_93 rfl (Or.inl rfl) (by decide) g8 ?_
              refine ga_il5 C eX3_keep_94 ?_
              refine ga_al0 C eX3_keep_96 ?_
              refine ga_getR C hK eX3_keep_97 lRX3_16 rfl rfl ?_
              refine ga_il1 C eX3_keep_100 ?_
              refine ga_aald C hK eX3_keep_101 rfl (Or.inl rfl) (by decide) g8 ?_
              refine ga_il5 C eX3_keep_102 ?_
              refine ga_push C eX3_keep_104 ?_
              refine ga_isub C eX3_keep_105 ?_
              refine ga_iald C hK eX3_keep_106 (gk_r74 g8) (by decide) g9 ?_
              obtain ⟨M14, q14, hf⟩ := gB_some hf
              refine ga_iast C hK eX3_keep_107 (gk_r74 g8) (by decide) g13 q14 ?_
              refine ga_al0 C eX3_keep_108 ?_
              refine ga_getR C hK eX3_keep_109 lRX3_19 rfl rfl ?_
              refine ga_il1 C eX3_keep_112 ?_
              refine ga_aald C hK eX3_keep_113 rfl (Or.inl rfl) (by decide) g8 ?_
              refine ga_il5 C eX3_keep_114 ?_
              refine ga_al0 C eX3_keep_116 ?_
              refine ga_getR C hK eX3_keep_117 lRX3_19 rfl rfl ?_
              refine ga_il1 C eX3_keep_120 ?_
              refine ga_aald C hK eX3_keep_121 rfl (Or.inl rfl) (by decide) g8 ?_
              refine ga_il5 C eX3_keep_122 ?_
              refine ga_push C eX3_keep_124 ?_
              refine ga_isub C eX3_keep_125 ?_
              refine ga_iald C hK eX3_keep_126 (gk_r78 g8) (by decide) g9 ?_
              obtain ⟨M15, q15, hf⟩ := gB_some hf
              refine ga_iast C hK eX3_keep_127 (gk_r78 g8) (by decide) g13 q15 ?_
              refine ga_ii5 C eX3_keep_128 ?_
              refine ga_goto C eX3_keep_131 ?_
              refine ga_forget [true, true, true, true, true, true] rfl ?_
              exact ih _ _ _ _ _ _ _ _ hf kx
            · rw [if_neg hc] at hf
              cases hf
              exact ga_forget [true, true, true, true, true, true] rfl kx
          · rw [if_neg hc] at hf
            cases hf
            exact ga_forget [true, true, true, true, true, true] rfl kx
      obtain ⟨M6, x5_6, hl6, hf⟩ := gb2_some hf
      refine ga_forget [true, true, true, true, true, true] rfl ?_
      refine L47 G _ _ _ _ _ _ _ _ hl6 ?_
      refine ga_al0 C eX3_keep_134 ?_
      refine ga_getR C hK eX3_keep_135 lRX3_13 rfl rfl ?_
      refine ga_il1 C eX3_keep_138 ?_
      refine ga_aald C hK eX3_keep_139 rfl (Or.inl rfl) (by decide) g1 ?_
      refine ga_il5 C eX3_keep_140 ?_
      refine ga_il2 C eX3_keep_142 ?_
      obtain ⟨g17, hf⟩ := gg_some hf
      obtain ⟨M16, q16, hf⟩ := gB_some hf
      refine ga_iast C hK eX3_keep_143 (gk_r70 g1) (by decide) g17 q16 ?_
      refine ga_al0 C eX3_keep_144 ?_
      refine ga_getR C hK eX3_keep_145 lRX3_16 rfl rfl ?_
      refine ga_il1 C eX3_keep_148 ?_
      refine ga_aald C hK eX3_keep_149 rfl (Or.inl rfl) (by decide) g1 ?_
      refine ga_il5 C eX3_keep_150 ?_
      refine ga_il3 C eX3_keep_152 ?_
      obtain ⟨M18, q18, hf⟩ := gB_some hf
      refine ga_iast C hK eX3_keep_153 (gk_r74 g1) (by decide) g17 q18 ?_
      refine ga_al0 C eX3_keep_154 ?_
      refine ga_getR C hK eX3_keep_155 lRX3_19 rfl rfl ?_
      refine ga_il1 C eX3_keep_158 ?_
      refine ga_aald C hK eX3_keep_159 rfl (Or.inl rfl) (by decide) g1 ?_
      refine ga_il5 C eX3_keep_160 ?_
      refine ga_il4 C eX3_keep_162 ?_
      obtain ⟨M19, q19, hf⟩ := gB_some hf
      refine ga_iast C hK eX3_keep_164 (gk_r78 g1) (by decide) g17 q19 ?_
      exact ga_vretW C T eX3_keep_165 hf
  · rw [if_neg hc] at hf
    refine ga_al0 C eX3_keep_37 ?_
    refine ga_getR C hK eX3_keep_38 lRX3_22 rfl rfl ?_
    refine ga_il1 C eX3_keep_41 ?_
    refine ga_dup2 C eX3_keep_42 ?_
    refine ga_iald C hK eX3_keep_43 rfl (by decide) g1 ?_
    refine ga_push C eX3_keep_44 ?_
    refine ga_iadd C eX3_keep_45 ?_
    obtain ⟨M20, q20, hf⟩ := gB_some hf
    refine ga_iast C hK eX3_keep_46 rfl (by decide) g1 q20 ?_
    have L47 : ∀ (F : Nat) (M : gaM) (v1 : Int) (v2 : Int) (v3 : Int) (v4 : Int) (v5 : Int) (M21 : gaM) (x5_21 : Int), l_X3_keep_47 G n F M v1 v2 v3 v4 v5 = some (M21, x5_21) → ga_W X M21 134 [some (.inr (some 7)), some (.inl v1), some (.inl v2), some (.inl v3), some (.inl v4), some (.inl x5_21)] [] → ga_W X M 47 [some (.inr (some 7)), some (.inl v1), some (.inl v2), some (.inl v3), some (.inl v4), some (.inl v5)] [] := by
      intro F
      induction F with
      | zero =>
        intro M v1 v2 v3 v4 v5 M21 x5_21 hf kx
        cases hf
      | succ F ih =>
        intro M v1 v2 v3 v4 v5 M21 x5_21 hf kx
        rw [l_X3_keep_47] at hf
        refine ga_il5 C eX3_keep_47 ?_
        obtain ⟨g22, hf⟩ := gg_some hf
        refine ga_if_le C eX3_keep_49 g22 (fun hc => ?_) (fun hc => ?_)
        · rw [if_pos hc] at hf
          refine ga_al0 C eX3_keep_52 ?_
          refine ga_getR C hK eX3_keep_53 lRX3_19 rfl rfl ?_
          refine ga_il1 C eX3_keep_56 ?_
          obtain ⟨g23, hf⟩ := gg_some hf
          refine ga_aald C hK eX3_keep_57 rfl (Or.inl rfl) (by decide) g23 ?_
          refine ga_il5 C eX3_keep_58 ?_
          refine ga_push C eX3_keep_60 ?_
          refine ga_isub C eX3_keep_61 ?_
          obtain ⟨g24, hf⟩ := gg_some hf
          refine ga_iald C hK eX3_keep_62 (gk_r78 g23) (by decide) g24 ?_
          refine ga_il4 C eX3_keep_63 ?_
          obtain ⟨g25, hf⟩ := gg_some hf
          obtain ⟨g26, hf⟩ := gg_some hf
          refine ga_icmp_le C eX3_keep_65 g25 g26 (fun hc => ?_) (fun hc => ?_)
          · rw [if_pos hc] at hf
            refine ga_al0 C eX3_keep_68 ?_
            refine ga_getR C hK eX3_keep_69 lRX3_13 rfl rfl ?_
            refine ga_il1 C eX3_keep_72 ?_
            refine ga_aald C hK eX3_keep_73 rfl (Or.inl rfl) (by decide) g23 ?_
            refine ga_il5 C eX3_keep_74 ?_
            refine ga_al0 C eX3_keep_76 ?_
            refine ga_getR C hK eX3_keep_77 lRX3_13 rfl rfl ?_
            refine ga_il1 C eX3_keep_80 ?_
            refine ga_aald C hK eX3_keep_81 rfl (Or.inl rfl) (by decide) g23 ?_
            refine ga_il5 C eX3_keep_82 ?_
            refine ga_push C eX3_keep_84 ?_
            refine ga_isub C eX3_keep_85 ?_
            refine ga_iald C hK eX3_keep_86 (gk_r70 g23) (by decide) g24 ?_
            obtain ⟨g28, hf⟩ := gg_some hf
            obtain ⟨M27, q27, hf⟩ := gB_some hf
            refine ga_iast C hK eX3_keep_87 (gk_r70 g23) (by decide) g28 q27 ?_
            refine ga_al0 C eX3_keep_88 ?_
            refine ga_getR C hK eX3_keep_89 lRX3_16 rfl rfl ?_
            refine ga_il1 C eX3_keep_92 ?_
            refine ga_aald C hK eX3_keep_93 rfl (Or.inl rfl) (by decide) g23 ?_
            refine ga_il5 C eX3_keep_94 ?_
            refine ga_al0 C eX3_keep_96 ?_
            refine ga_getR C hK eX3_keep_97 lRX3_16 rfl rfl ?_
            refine ga_il1 C eX3_keep_100 ?_
            refine ga_aald C hK eX3_keep_101 rfl (Or.inl rfl) (by decide) g23 ?_
            refine ga_il5 C eX3_keep_102 ?_
            refine ga_push C eX3_keep_104 ?_
            refine ga_isub C eX3_keep_105 ?_
            refine ga_iald C hK eX3_keep_106 (gk_r74 g23) (by decide) g24 ?_
            obtain ⟨M29, q29, hf⟩ := gB_some hf
            refine ga_iast C hK eX3_keep_107 (gk_r74 g23) (by decide) g28 q29 ?_
            refine ga_al0 C eX3_keep_108 ?_
            refine ga_getR C hK eX3_keep_109 lRX3_19 rfl rfl ?_
            refine ga_il1 C eX3_keep_112 ?_
            refine ga_aald C hK eX3_keep_113 rfl (Or.inl rfl) (by decide) g23 ?_
            refine ga_il5 C eX3_keep_114 ?_
            refine ga_al0 C eX3_keep_116 ?_
            refine ga_getR C hK eX3_keep_117 lRX3_19 rfl rfl ?_
            refine ga_il1 C eX3_keep_120 ?_
            refine ga_aald C hK eX3_keep_121 rfl (Or.inl rfl) (by decide) g23 ?_
            refine ga_il5 C eX3_keep_122 ?_
            refine ga_push C eX3_keep_124 ?_
            refine ga_isub C eX3_keep_125 ?_
            refine ga_iald C hK eX3_keep_126 (gk_r78 g23) (by decide) g24 ?_
            obtain ⟨M30, q30, hf⟩ := gB_some hf
            refine ga_iast C hK eX3_keep_127 (gk_r78 g23) (by decide) g28 q30 ?_
            refine ga_ii5 C eX3_keep_128 ?_
            refine ga_goto C eX3_keep_131 ?_
            refine ga_forget [true, true, true, true, true, true] rfl ?_
            exact ih _ _ _ _ _ _ _ _ hf kx
          · rw [if_neg hc] at hf
            cases hf
            exact ga_forget [true, true, true, true, true, true] rfl kx
        · rw [if_neg hc] at hf
          cases hf
          exact ga_forget [true, true, true, true, true, true] rfl kx
    obtain ⟨M21, x5_21, hl21, hf⟩ := gb2_some hf
    refine ga_forget [true, true, true, true, true, true] rfl ?_
    refine L47 G _ _ _ _ _ _ _ _ hl21 ?_
    refine ga_al0 C eX3_keep_134 ?_
    refine ga_getR C hK eX3_keep_135 lRX3_13 rfl rfl ?_
    refine ga_il1 C eX3_keep_138 ?_
    refine ga_aald C hK eX3_keep_139 rfl (Or.inl rfl) (by decide) g1 ?_
    refine ga_il5 C eX3_keep_140 ?_
    refine ga_il2 C eX3_keep_142 ?_
    obtain ⟨g32, hf⟩ := gg_some hf
    obtain ⟨M31, q31, hf⟩ := gB_some hf
    refine ga_iast C hK eX3_keep_143 (gk_r70 g1) (by decide) g32 q31 ?_
    refine ga_al0 C eX3_keep_144 ?_
    refine ga_getR C hK eX3_keep_145 lRX3_16 rfl rfl ?_
    refine ga_il1 C eX3_keep_148 ?_
    refine ga_aald C hK eX3_keep_149 rfl (Or.inl rfl) (by decide) g1 ?_
    refine ga_il5 C eX3_keep_150 ?_
    refine ga_il3 C eX3_keep_152 ?_
    obtain ⟨M33, q33, hf⟩ := gB_some hf
    refine ga_iast C hK eX3_keep_153 (gk_r74 g1) (by decide) g32 q33 ?_
    refine ga_al0 C eX3_keep_154 ?_
    refine ga_getR C hK eX3_keep_155 lRX3_19 rfl rfl ?_
    refine ga_il1 C eX3_keep_158 ?_
    refine ga_aald C hK eX3_keep_159 rfl (Or.inl rfl) (by decide) g1 ?_
    refine ga_il5 C eX3_keep_160 ?_
    refine ga_il4 C eX3_keep_162 ?_
    obtain ⟨M34, q34, hf⟩ := gB_some hf
    refine ga_iast C hK eX3_keep_164 (gk_r78 g1) (by decide) g32 q34 ?_
    exact ga_vretW C T eX3_keep_165 hf


set_option maxRecDepth 20000 in
set_option maxHeartbeats 4000000 in
theorem t_X6_regret {n e cp G : Nat} (hg : gh n e cp) {M Mz : gaM} {v1 : Int} {rz : Int}  (hf : f_X6_regret G n M v1 = some (rz, Mz)) : ga_Met yX6_regret cX6_regret 2 (some .int) 2 (gk n e cp) M [.inr (some 100), .inl v1] (some (.inl rz)) Mz := by
  refine ga_met (by decide) rfl (Nat.le_of_ble_eq_true rfl) ?_
  intro X C hK T
  show ga_W X M 0 [some (.inr (some 100)), some (.inl v1)] []
  unfold f_X6_regret at hf
  refine ga_al0 C eX6_regret_0 ?_
  refine ga_push C eX6_regret_1 ?_
  obtain ⟨M1, q1, hf⟩ := gB_some hf
  refine ga_putI C hK eX6_regret_2 lRX6_1 (by intro q hq; cases hq; exact ⟨rfl, rfl⟩) rfl rfl q1 ?_
  refine ga_al0 C eX6_regret_5 ?_
  refine ga_il1 C eX6_regret_6 ?_
  obtain ⟨r2, c2, hf⟩ := gb_some hf
  refine ga_cV1 C hK eX6_regret_7 nRX6_133 mX6_isJob vX6_isJob rfl (t_X6_isJob hg c2) (by decide) (Nat.le_of_ble_eq_true rfl) ?_
  obtain ⟨g3, hf⟩ := gg_some hf
  refine ga_if_eq C eX6_regret_10 g3 (fun hc => ?_) (fun hc => ?_)
  · rw [if_pos hc] at hf
    refine ga_push C eX6_regret_31 ?_
    exact ga_iretW C T eX6_regret_32 hf
  · rw [if_neg hc] at hf
    refine ga_al0 C eX6_regret_13 ?_
    refine ga_getR C hK eX6_regret_14 lRX6_47 rfl rfl ?_
    refine ga_il1 C eX6_regret_17 ?_
    obtain ⟨g4, hf⟩ := gg_some hf
    refine ga_iald C hK eX6_regret_18 rfl (by decide) g4 ?_
    refine ga_push C eX6_regret_19 ?_
    obtain ⟨g5, hf⟩ := gg_some hf
    refine ga_icmp_ne C eX6_regret_20 g5 (by decide) (fun hc => ?_) (fun hc => ?_)
    · rw [if_pos hc] at hf
      refine ga_al0 C eX6_regret_23 ?_
      refine ga_il1 C eX6_regret_24 ?_
      obtain ⟨r6, c6, hf⟩ := gb_some hf
      refine ga_cV1 C hK eX6_regret_25 nRX6_197 mX6_regretOf vX6_regretOf rfl (t_X6_regretOf hg c6) (by decide) (Nat.le_of_ble_eq_true rfl) ?_
      refine ga_goto C eX6_regret_28 ?_
      exact ga_iretW C T eX6_regret_32 hf
    · rw [if_neg hc] at hf
      refine ga_push C eX6_regret_31 ?_
      exact ga_iretW C T eX6_regret_32 hf

set_option maxRecDepth 20000 in
set_option maxHeartbeats 4000000 in
theorem t_X6_worst {n e cp G : Nat} (hg : gh n e cp) {M Mz : gaM} {rz : Int}  (hf : f_X6_worst G n M = some (rz, Mz)) : ga_Met yX6_worst cX6_worst 3 (some .int) 2 (gk n e cp) M [.inr (some 100)] (some (.inl rz)) Mz := by
  refine ga_met (by decide) rfl (Nat.le_of_ble_eq_true rfl) ?_
  intro X C hK T
  show ga_W X M 0 [some (.inr (some 100)), none, none] []
  unfold f_X6_worst at hf
  refine ga_al0 C eX6_worst_0 ?_
  refine ga_push C eX6_worst_1 ?_
  obtain ⟨M1, q1, hf⟩ := gB_some hf
  refine ga_putI C hK eX6_worst_2 lRX6_1 (by intro q hq; cases hq; exact ⟨rfl, rfl⟩) rfl rfl q1 ?_
  refine ga_push C eX6_worst_5 ?_
  refine ga_is1 C eX6_worst_7 ?_
  refine ga_push C eX6_worst_8 ?_
  refine ga_is2 C eX6_worst_9 ?_
  have L10 : ∀ (F : Nat) (M : gaM) (v1 : Int) (v2 : Int) (x1_2 : Int), l_X6_worst_10 G n F M v1 v2 = some x1_2 → ga_W X M 55 [none, some (.inl x1_2), none] [] → ga_W X M 10 [some (.inr (some 100)), some (.inl v1), some (.inl v2)] [] := by
    intro F
    induction F with
    | zero =>
      intro M v1 v2 x1_2 hf kx
      cases hf
    | succ F ih =>
      intro M v1 v2 x1_2 hf kx
      rw [l_X6_worst_10] at hf
      refine ga_il2 C eX6_worst_10 ?_
      refine ga_al0 C eX6_worst_11 ?_
      refine ga_getI C hK eX6_worst_12 lRX6_105 rfl rfl ?_
      obtain ⟨g3, hf⟩ := gg_some hf
      obtain ⟨g4, hf⟩ := gg_some hf
      refine ga_icmp_ge C eX6_worst_15 g3 g4 (fun hc => ?_) (fun hc => ?_)
      · rw [if_pos hc] at hf
        refine ga_al0 C eX6_worst_18 ?_
        refine ga_getR C hK eX6_worst_19 lRX6_47 rfl rfl ?_
        refine ga_il2 C eX6_worst_22 ?_
        obtain ⟨g5, hf⟩ := gg_some hf
        refine ga_iald C hK eX6_worst_23 rfl (by decide) g5 ?_
        refine ga_push C eX6_worst_24 ?_
        obtain ⟨g6, hf⟩ := gg_some hf
        obtain ⟨x1_7, hx, hf⟩ := gb_some hf
        have kx7 : ga_W X M 49 [some (.inr (some 100)), some (.inl x1_7), some (.inl v2)] [] := by
          refine ga_ii2 C eX6_worst_49 ?_
          refine ga_goto C eX6_worst_52 ?_
          refine ga_forget [true, true, true] rfl ?_
          exact ih _ _ _ _ hf kx
        clear hf
        have hf := hx
        refine ga_icmp_ne C eX6_worst_25 g6 (by decide) (fun hc => ?_) (fun hc => ?_)
        · rw [if_pos hc] at hf
          refine ga_il1 C eX6_worst_28 ?_
          refine ga_push C eX6_worst_29 ?_
          obtain ⟨g8, hf⟩ := gg_some hf
          refine ga_icmp_eq C eX6_worst_31 g8 (by decide) (fun hc => ?_) (fun hc => ?_)
          · rw [if_pos hc] at hf
            refine ga_il2 C eX6_worst_47 ?_
            refine ga_is1 C eX6_worst_48 ?_
            cases hf
            exact ga_forget [true, true, true] rfl kx7
          · rw [if_neg hc] at hf
            refine ga_al0 C eX6_worst_34 ?_
            refine ga_il2 C eX6_worst_35 ?_
            obtain ⟨r9, c9, hf⟩ := gb_some hf
            refine ga_cV1 C hK eX6_worst_36 nRX6_197 mX6_regretOf vX6_regretOf rfl (t_X6_regretOf hg c9) (by decide) (Nat.le_of_ble_eq_true rfl) ?_
            refine ga_al0 C eX6_worst_39 ?_
            refine ga_il1 C eX6_worst_40 ?_
            obtain ⟨r10, c10, hf⟩ := gb_some hf
            refine ga_cV1 C hK eX6_worst_41 nRX6_197 mX6_regretOf vX6_regretOf rfl (t_X6_regretOf hg c10) (by decide) (Nat.le_of_ble_eq_true rfl) ?_
            obtain ⟨g11, hf⟩ := gg_some hf
            obtain ⟨g12, hf⟩ := gg_some hf
            refine ga_icmp_le C eX6_worst_44 g11 g12 (fun hc => ?_) (fun hc => ?_)
            · rw [if_pos hc] at hf
              refine ga_il2 C eX6_worst_47 ?_
              refine ga_is1 C eX6_worst_48 ?_
              cases hf
              exact ga_forget [true, true, true] rfl kx7
            · rw [if_neg hc] at hf
              cases hf
              exact ga_forget [true, true, true] rfl kx7
        · rw [if_neg hc] at hf
          cases hf
          exact ga_forget [true, true, true] rfl kx7
      · rw [if_neg hc] at hf
        cases hf
        exact ga_forget [false, true, false] rfl kx
  obtain ⟨x1_2, hl2, hf⟩ := gb_some hf
  refine ga_forget [true, true, true] rfl ?_
  refine L10 G _ _ _ _ hl2 ?_
  refine ga_il1 C eX6_worst_55 ?_
  exact ga_iretW C T eX6_worst_56 hf

set_option maxRecDepth 20000 in
set_option maxHeartbeats 4000000 in
theorem t_X6_would {n e cp G : Nat} (hg : gh n e cp) {M Mz : gaM} {v1 v2 v3 : Int} {rz : Int}  (hf : f_X6_would G n M v1 v2 v3 = some (rz, Mz)) : ga_Met yX6_would cX6_would 4 (some .int) 1 (gk n e cp) M [.inr (some 100), .inl v1, .inl v2, .inl v3] (some (.inl rz)) Mz := by
  refine ga_met (by decide) rfl (Nat.le_of_ble_eq_true rfl) ?_
  intro X C hK T
  show ga_W X M 0 [some (.inr (some 100)), some (.inl v1), some (.inl v2), some (.inl v3)] []
  unfold f_X6_would at hf
  refine ga_al0 C eX6_would_0 ?_
  refine ga_push C eX6_would_1 ?_
  obtain ⟨M1, q1, hf⟩ := gB_some hf
  refine ga_putI C hK eX6_would_2 lRX6_1 (by intro q hq; cases hq; exact ⟨rfl, rfl⟩) rfl rfl q1 ?_
  refine ga_al0 C eX6_would_5 ?_
  refine ga_il1 C eX6_would_6 ?_
  obtain ⟨r2, c2, hf⟩ := gb_some hf
  refine ga_cV1 C hK eX6_would_7 nRX6_133 mX6_isJob vX6_isJob rfl (t_X6_isJob hg c2) (by decide) (Nat.le_of_ble_eq_true rfl) ?_
  obtain ⟨g3, hf⟩ := gg_some hf
  refine ga_if_eq C eX6_would_10 g3 (fun hc => ?_) (fun hc => ?_)
  · rw [if_pos hc] at hf
    refine ga_al0 C eX6_would_21 ?_
    refine ga_push C eX6_would_22 ?_
    obtain ⟨r4, M4, c4, hf⟩ := gb2_some hf
    refine ga_cV1 C hK eX6_would_23 nRX6_112 mX6_refused vX6_refused rfl (t_X6_refused hg c4) (by decide) (Nat.le_of_ble_eq_true rfl) ?_
    exact ga_iretW C T eX6_would_26 hf
  · rw [if_neg hc] at hf
    refine ga_al0 C eX6_would_13 ?_
    refine ga_il2 C eX6_would_14 ?_
    obtain ⟨r5, c5, hf⟩ := gb_some hf
    refine ga_cV1 C hK eX6_would_15 nRX6_119 mX6_isPlace vX6_isPlace rfl (t_X6_isPlace hg c5) (by decide) (Nat.le_of_ble_eq_true rfl) ?_
    obtain ⟨g6, hf⟩ := gg_some hf
    refine ga_if_ne C eX6_would_18 g6 (fun hc => ?_) (fun hc => ?_)
    · rw [if_pos hc] at hf
      refine ga_al0 C eX6_would_21 ?_
      refine ga_push C eX6_would_22 ?_
      obtain ⟨r7, M7, c7, hf⟩ := gb2_some hf
      refine ga_cV1 C hK eX6_would_23 nRX6_112 mX6_refused vX6_refused rfl (t_X6_refused hg c7) (by decide) (Nat.le_of_ble_eq_true rfl) ?_
      exact ga_iretW C T eX6_would_26 hf
    · rw [if_neg hc] at hf
      refine ga_il3 C eX6_would_27 ?_
      refine ga_al0 C eX6_would_28 ?_
      refine ga_getR C hK eX6_would_29 lRX6_38 rfl rfl ?_
      refine ga_il1 C eX6_would_32 ?_
      obtain ⟨g8, hf⟩ := gg_some hf
      refine ga_iald C hK eX6_would_33 rfl (by decide) g8 ?_
      obtain ⟨g9, hf⟩ := gg_some hf
      obtain ⟨g10, hf⟩ := gg_some hf
      refine ga_icmp_lt C eX6_would_34 g9 g10 (fun hc => ?_) (fun hc => ?_)
      · rw [if_pos hc] at hf
        refine ga_il3 C eX6_would_37 ?_
        refine ga_al0 C eX6_would_38 ?_
        refine ga_getR C hK eX6_would_39 lRX6_41 rfl rfl ?_
        refine ga_il1 C eX6_would_42 ?_
        refine ga_iald C hK eX6_would_43 rfl (by decide) g8 ?_
        refine ga_al0 C eX6_would_44 ?_
        refine ga_getR C hK eX6_would_45 lRX6_35 rfl rfl ?_
        refine ga_il1 C eX6_would_48 ?_
        refine ga_iald C hK eX6_would_49 rfl (by decide) g8 ?_
        refine ga_isub C eX6_would_50 ?_
        obtain ⟨g11, hf⟩ := gg_some hf
        refine ga_icmp_le C eX6_would_51 g9 g11 (fun hc => ?_) (fun hc => ?_)
        · rw [if_pos hc] at hf
          refine ga_al0 C eX6_would_54 ?_
          refine ga_push C eX6_would_55 ?_
          obtain ⟨r12, M12, c12, hf⟩ := gb2_some hf
          refine ga_cV1 C hK eX6_would_57 nRX6_116 mX6_done vX6_done rfl (t_X6_done hg c12) (by decide) (Nat.le_of_ble_eq_true rfl) ?_
          exact ga_iretW C T eX6_would_60 hf
        · rw [if_neg hc] at hf
          refine ga_al0 C eX6_would_61 ?_
          refine ga_al0 C eX6_would_62 ?_
          refine ga_il1 C eX6_would_63 ?_
          refine ga_il2 C eX6_would_64 ?_
          refine ga_il3 C eX6_would_65 ?_
          obtain ⟨r13, c13, hf⟩ := gb_some hf
          refine ga_cV3 C hK eX6_would_66 nRX6_166 mX6_costOf vX6_costOf rfl (t_X6_costOf hg c13) (by decide) (Nat.le_of_ble_eq_true rfl) ?_
          obtain ⟨r14, M14, c14, hf⟩ := gb2_some hf
          refine ga_cV1 C hK eX6_would_69 nRX6_116 mX6_done vX6_done rfl (t_X6_done hg c14) (by decide) (Nat.le_of_ble_eq_true rfl) ?_
          exact ga_iretW C T eX6_would_72 hf
      · rw [if_neg hc] at hf
        refine ga_al0 C eX6_would_54 ?_
        refine ga_push C eX6_would_55 ?_
        obtain ⟨r15, M15, c15, hf⟩ := gb2_some hf
        refine ga_cV1 C hK eX6_would_57 nRX6_116 mX6_done vX6_done rfl (t_X6_done hg c15) (by decide) (Nat.le_of_ble_eq_true rfl) ?_
        exact ga_iretW C T eX6_would_60 hf

set_option maxRecDepth 20000 in
set_option maxHeartbeats 4000000 in
theorem t_X6_many {n e cp G : Nat} (hg : gh n e cp) {M : gaM} {v1 : Int} {rz : Int}  (hf : f_X6_many G n M v1 = some rz) : ga_Met yX6_many cX6_many 4 (some .int) 0 (gk n e cp) M [.inr (some 100), .inl v1] (some (.inl rz)) M := by
  refine ga_met (by decide) rfl (Nat.le_of_ble_eq_true rfl) ?_
  intro X C hK T
  show ga_W X M 0 [some (.inr (some 100)), some (.inl v1), none, none] []
  unfold f_X6_many at hf
  refine ga_push C eX6_many_0 ?_
  refine ga_is2 C eX6_many_1 ?_
  refine ga_push C eX6_many_2 ?_
  refine ga_is3 C eX6_many_3 ?_
  have L4 : ∀ (F : Nat) (v1 : Int) (v2 : Int) (v3 : Int) (x2_1 : Int), l_X6_many_4 G n M F v1 v2 v3 = some x2_1 → ga_W X M 36 [none, none, some (.inl x2_1), none] [] → ga_W X M 4 [some (.inr (some 100)), some (.inl v1), some (.inl v2), some (.inl v3)] [] := by
    intro F
    induction F with
    | zero =>
      intro v1 v2 v3 x2_1 hf kx
      cases hf
    | succ F ih =>
      intro v1 v2 v3 x2_1 hf kx
      rw [l_X6_many_4] at hf
      refine ga_il3 C eX6_many_4 ?_
      refine ga_al0 C eX6_many_5 ?_
      refine ga_getI C hK eX6_many_6 lRX6_105 rfl rfl ?_
      obtain ⟨g2, hf⟩ := gg_some hf
      obtain ⟨g3, hf⟩ := gg_some hf
      refine ga_icmp_ge C eX6_many_9 g2 g3 (fun hc => ?_) (fun hc => ?_)
      · rw [if_pos hc] at hf
        refine ga_il2 C eX6_many_12 ?_
        refine ga_al0 C eX6_many_13 ?_
        refine ga_getR C hK eX6_many_14 lRX6_47 rfl rfl ?_
        refine ga_il3 C eX6_many_17 ?_
        obtain ⟨g4, hf⟩ := gg_some hf
        refine ga_iald C hK eX6_many_18 rfl (by decide) g4 ?_
        refine ga_il1 C eX6_many_19 ?_
        obtain ⟨g5, hf⟩ := gg_some hf
        obtain ⟨g6, hf⟩ := gg_some hf
        obtain ⟨s0_7, hx, hf⟩ := gb_some hf
        have kx7 : ga_W X M 28 [some (.inr (some 100)), some (.inl v1), none, some (.inl v3)] [.inl s0_7, .inl v2] := by
          refine ga_iadd C eX6_many_28 ?_
          refine ga_is2 C eX6_many_29 ?_
          refine ga_ii3 C eX6_many_30 ?_
          refine ga_goto C eX6_many_33 ?_
          refine ga_forget [true, true, true, true] rfl ?_
          exact ih _ _ _ _ hf kx
        clear hf
        have hf := hx
        refine ga_icmp_ne C eX6_many_20 g5 g6 (fun hc => ?_) (fun hc => ?_)
        · rw [if_pos hc] at hf
          refine ga_push C eX6_many_23 ?_
          refine ga_goto C eX6_many_24 ?_
          cases hf
          exact ga_forget [true, true, false, true] rfl kx7
        · rw [if_neg hc] at hf
          refine ga_push C eX6_many_27 ?_
          cases hf
          exact ga_forget [true, true, false, true] rfl kx7
      · rw [if_neg hc] at hf
        cases hf
        exact ga_forget [false, false, true, false] rfl kx
  obtain ⟨x2_1, hl1, hf⟩ := gb_some hf
  refine ga_forget [true, true, true, true] rfl ?_
  refine L4 G _ _ _ _ hl1 ?_
  refine ga_il2 C eX6_many_36 ?_
  exact ga_iret0 C T eX6_many_37 hf

set_option maxRecDepth 20000 in
set_option maxHeartbeats 4000000 in
theorem t_X6_count {n e cp G : Nat} (hg : gh n e cp) {M Mz : gaM} {v1 : Int} {rz : Int}  (hf : f_X6_count G n M v1 = some (rz, Mz)) : ga_Met yX6_count cX6_count 2 (some .int) 1 (gk n e cp) M [.inr (some 100), .inl v1] (some (.inl rz)) Mz := by
  refine ga_met (by decide) rfl (Nat.le_of_ble_eq_true rfl) ?_
  intro X C hK T
  show ga_W X M 0 [some (.inr (some 100)), some (.inl v1)] []
  unfold f_X6_count at hf
  refine ga_al0 C eX6_count_0 ?_
  refine ga_push C eX6_count_1 ?_
  obtain ⟨M1, q1, hf⟩ := gB_some hf
  refine ga_putI C hK eX6_count_2 lRX6_1 (by intro q hq; cases hq; exact ⟨rfl, rfl⟩) rfl rfl q1 ?_
  refine ga_il1 C eX6_count_5 ?_
  obtain ⟨g2, hf⟩ := gg_some hf
  by_cases hc0 : v1 = 0
  · rw [if_pos hc0] at hf
    refine ga_tabIn 0 C eX6_count_6 hc0 (by decide) (by decide) rfl (by decide) (tgt := 48) ?_
    refine ga_al0 C eX6_count_48 ?_
    refine ga_getI C hK eX6_count_49 lRX6_102 rfl rfl ?_
    exact ga_iretW C T eX6_count_52 hf
  · rw [if_neg hc0] at hf
    by_cases hc1 : v1 = 1
    · rw [if_pos hc1] at hf
      refine ga_tabIn 1 C eX6_count_6 hc1 (by decide) (by decide) rfl (by decide) (tgt := 53) ?_
      refine ga_al0 C eX6_count_53 ?_
      refine ga_getI C hK eX6_count_54 lRX6_105 rfl rfl ?_
      exact ga_iretW C T eX6_count_57 hf
    · rw [if_neg hc1] at hf
      by_cases hc2 : v1 = 2
      · rw [if_pos hc2] at hf
        refine ga_tabIn 2 C eX6_count_6 hc2 (by decide) (by decide) rfl (by decide) (tgt := 58) ?_
        refine ga_al0 C eX6_count_58 ?_
        refine ga_push C eX6_count_59 ?_
        obtain ⟨r3, c3, hf⟩ := gb_some hf
        refine ga_cV1 C hK eX6_count_60 nRX6_200 mX6_many vX6_many rfl (t_X6_many hg c3) (by decide) (Nat.le_of_ble_eq_true rfl) ?_
        exact ga_iretW C T eX6_count_63 hf
      · rw [if_neg hc2] at hf
        by_cases hc3 : v1 = 3
        · rw [if_pos hc3] at hf
          refine ga_tabIn 3 C eX6_count_6 hc3 (by decide) (by decide) rfl (by decide) (tgt := 64) ?_
          refine ga_al0 C eX6_count_64 ?_
          refine ga_push C eX6_count_65 ?_
          obtain ⟨r4, c4, hf⟩ := gb_some hf
          refine ga_cV1 C hK eX6_count_66 nRX6_200 mX6_many vX6_many rfl (t_X6_many hg c4) (by decide) (Nat.le_of_ble_eq_true rfl) ?_
          exact ga_iretW C T eX6_count_69 hf
        · rw [if_neg hc3] at hf
          by_cases hc4 : v1 = 4
          · rw [if_pos hc4] at hf
            refine ga_tabIn 4 C eX6_count_6 hc4 (by decide) (by decide) rfl (by decide) (tgt := 70) ?_
            refine ga_al0 C eX6_count_70 ?_
            refine ga_push C eX6_count_71 ?_
            obtain ⟨r5, c5, hf⟩ := gb_some hf
            refine ga_cV1 C hK eX6_count_72 nRX6_200 mX6_many vX6_many rfl (t_X6_many hg c5) (by decide) (Nat.le_of_ble_eq_true rfl) ?_
            exact ga_iretW C T eX6_count_75 hf
          · rw [if_neg hc4] at hf
            by_cases hc5 : v1 = 5
            · rw [if_pos hc5] at hf
              refine ga_tabIn 5 C eX6_count_6 hc5 (by decide) (by decide) rfl (by decide) (tgt := 76) ?_
              refine ga_al0 C eX6_count_76 ?_
              refine ga_push C eX6_count_77 ?_
              obtain ⟨r6, c6, hf⟩ := gb_some hf
              refine ga_cV1 C hK eX6_count_78 nRX6_200 mX6_many vX6_many rfl (t_X6_many hg c6) (by decide) (Nat.le_of_ble_eq_true rfl) ?_
              exact ga_iretW C T eX6_count_81 hf
            · rw [if_neg hc5] at hf
              by_cases hc6 : v1 = 6
              · rw [if_pos hc6] at hf
                refine ga_tabIn 6 C eX6_count_6 hc6 (by decide) (by decide) rfl (by decide) (tgt := 82) ?_
                refine ga_al0 C eX6_count_82 ?_
                refine ga_getI C hK eX6_count_83 lRX6_130 rfl rfl ?_
                exact ga_iretW C T eX6_count_86 hf
              · rw [if_neg hc6] at hf
                refine ga_tabOut C eX6_count_6 g2 (by omega) (by decide) (tgt := 87) ?_
                refine ga_push C eX6_count_87 ?_
                exact ga_iretW C T eX6_count_88 hf

set_option maxRecDepth 20000 in
set_option maxHeartbeats 4000000 in
theorem t_X6_trouble {n e cp G : Nat} (hg : gh n e cp) {M Mz : gaM} {rz : Int}  (hf : f_X6_trouble G n M = some (rz, Mz)) : ga_Met yX6_trouble cX6_trouble 1 (some .int) 0 (gk n e cp) M [.inr (some 100)] (some (.inl rz)) Mz := by
  refine ga_met (by decide) rfl (Nat.le_of_ble_eq_true rfl) ?_
  intro X C hK T
  show ga_W X M 0 [some (.inr (some 100))] []
  unfold f_X6_trouble at hf
  refine ga_al0 C eX6_trouble_0 ?_
  refine ga_push C eX6_trouble_1 ?_
  obtain ⟨M1, q1, hf⟩ := gB_some hf
  refine ga_putI C hK eX6_trouble_2 lRX6_1 (by intro q hq; cases hq; exact ⟨rfl, rfl⟩) rfl rfl q1 ?_
  refine ga_al0 C eX6_trouble_5 ?_
  refine ga_getI C hK eX6_trouble_6 lRX6_7 rfl rfl ?_
  exact ga_iretW C T eX6_trouble_9 hf


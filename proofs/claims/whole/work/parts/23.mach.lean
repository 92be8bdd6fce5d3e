set_option maxRecDepth 20000 in
set_option maxHeartbeats 4000000 in
theorem t_X5_orderWaiting {n e cp G : Nat} (hg : gh n e cp) {M Mz : gaM} {rz : Int}  (hf : f_X5_orderWaiting G n M = some (rz, Mz)) : ga_Met yX5_orderWaiting cX5_orderWaiting 5 (some .int) 5 (gk n e cp) M [.inr (some 0)] (some (.inl rz)) Mz := by
  refine ga_met (by decide) rfl (Nat.le_of_ble_eq_true rfl) ?_
  intro X C hK T
  show ga_W X M 0 [some (.inr (some 0)), none, none, none, none] []
  unfold f_X5_orderWaiting at hf
  refine ga_push C eX5_orderWaiting_0 ?_
  refine ga_is1 C eX5_orderWaiting_1 ?_
  refine ga_push C eX5_orderWaiting_2 ?_
  refine ga_is2 C eX5_orderWaiting_3 ?_
  have L4 : ∀ (F : Nat) (M : gaM) (v1 : Int) (v2 : Int) (M1 : gaM) (x1_1 : Int), l_X5_orderWaiting_4 G n F M v1 v2 = some (M1, x1_1) → ga_W X M1 105 [none, some (.inl x1_1), none, none, none] [] → ga_W X M 4 [some (.inr (some 0)), some (.inl v1), some (.inl v2), none, none] [] := by
    intro F
    induction F with
    | zero =>
      intro M v1 v2 M1 x1_1 hf kx
      cases hf
    | succ F ih =>
      intro M v1 v2 M1 x1_1 hf kx
      rw [l_X5_orderWaiting_4] at hf
      refine ga_il2 C eX5_orderWaiting_4 ?_
      refine ga_al0 C eX5_orderWaiting_5 ?_
      refine ga_getR C hK eX5_orderWaiting_6 lRX5_19 rfl rfl ?_
      obtain ⟨r2, c2, hf⟩ := gb_some hf
      refine ga_cV0 C hK eX5_orderWaiting_9 nRX5_109 mJx4a65c_size_8abf5 vJx4a65c_size_8abf5 rfl (t_Jx4a65c_size_8abf5 hg c2) (by decide) (Nat.le_of_ble_eq_true rfl) ?_
      obtain ⟨g3, hf⟩ := gg_some hf
      obtain ⟨g4, hf⟩ := gg_some hf
      refine ga_icmp_ge C eX5_orderWaiting_12 g3 g4 (fun hc => ?_) (fun hc => ?_)
      · rw [if_pos hc] at hf
        refine ga_al0 C eX5_orderWaiting_15 ?_
        refine ga_getR C hK eX5_orderWaiting_16 lRX5_19 rfl rfl ?_
        refine ga_il2 C eX5_orderWaiting_19 ?_
        obtain ⟨r5, c5, hf⟩ := gb_some hf
        have k5 := gk_get (e := e) (cp := cp) c5
        refine ga_cV1 C hK eX5_orderWaiting_20 nRX5_116 mJx4a65c_get_915e3 vJx4a65c_get_915e3 rfl (t_get hg c5) (by decide) (Nat.le_of_ble_eq_true rfl) ?_
        refine ga_cast (q := gaT_4) C hK eX5_orderWaiting_23 clRX5_101 rfl k5 ?_
        refine ga_getI C hK eX5_orderWaiting_26 lRX5_120 k5 rfl ?_
        obtain ⟨g6, hf⟩ := gg_some hf
        obtain ⟨M7, x1_7, hx, hf⟩ := gb2_some hf
        have kx7 : ga_W X M7 99 [some (.inr (some 0)), some (.inl x1_7), some (.inl v2), none, none] [] := by
          refine ga_ii2 C eX5_orderWaiting_99 ?_
          refine ga_goto C eX5_orderWaiting_102 ?_
          refine ga_forget [true, true, true, false, false] rfl ?_
          exact ih _ _ _ _ _ hf kx
        clear hf
        have hf := hx
        refine ga_if_eq C eX5_orderWaiting_29 g6 (fun hc => ?_) (fun hc => ?_)
        · rw [if_pos hc] at hf
          refine ga_al0 C eX5_orderWaiting_35 ?_
          refine ga_il2 C eX5_orderWaiting_36 ?_
          obtain ⟨r8, c8, hf⟩ := gb_some hf
          refine ga_cV1 C hK eX5_orderWaiting_37 nRX5_246 mX5_rankOf vX5_rankOf rfl (t_X5_rankOf hg c8) (by decide) (Nat.le_of_ble_eq_true rfl) ?_
          refine ga_is3 C eX5_orderWaiting_40 ?_
          refine ga_il1 C eX5_orderWaiting_41 ?_
          refine ga_is4 C eX5_orderWaiting_42 ?_
          have L44 : ∀ (F : Nat) (M : gaM) (v1 : Int) (v2 : Int) (v3 : Int) (v4 : Int) (M9 : gaM) (x4_9 : Int), l_X5_orderWaiting_44 G n F M v1 v2 v3 v4 = some (M9, x4_9) → ga_W X M9 88 [some (.inr (some 0)), some (.inl v1), some (.inl v2), none, some (.inl x4_9)] [] → ga_W X M 44 [some (.inr (some 0)), some (.inl v1), some (.inl v2), some (.inl v3), some (.inl v4)] [] := by
            intro F
            induction F with
            | zero =>
              intro M v1 v2 v3 v4 M9 x4_9 hf kx
              cases hf
            | succ F ih =>
              intro M v1 v2 v3 v4 M9 x4_9 hf kx
              rw [l_X5_orderWaiting_44] at hf
              refine ga_il4 C eX5_orderWaiting_44 ?_
              obtain ⟨g10, hf⟩ := gg_some hf
              refine ga_if_le C eX5_orderWaiting_46 g10 (fun hc => ?_) (fun hc => ?_)
              · rw [if_pos hc] at hf
                refine ga_al0 C eX5_orderWaiting_49 ?_
                refine ga_al0 C eX5_orderWaiting_50 ?_
                refine ga_getR C hK eX5_orderWaiting_51 lRX5_51 rfl rfl ?_
                refine ga_il4 C eX5_orderWaiting_54 ?_
                refine ga_push C eX5_orderWaiting_56 ?_
                refine ga_isub C eX5_orderWaiting_57 ?_
                obtain ⟨g11, hf⟩ := gg_some hf
                refine ga_iald C hK eX5_orderWaiting_58 rfl (by decide) g11 ?_
                obtain ⟨r12, c12, hf⟩ := gb_some hf
                refine ga_cV1 C hK eX5_orderWaiting_59 nRX5_246 mX5_rankOf vX5_rankOf rfl (t_X5_rankOf hg c12) (by decide) (Nat.le_of_ble_eq_true rfl) ?_
                refine ga_il3 C eX5_orderWaiting_62 ?_
                obtain ⟨g13, hf⟩ := gg_some hf
                obtain ⟨g14, hf⟩ := gg_some hf
                refine ga_icmp_le C eX5_orderWaiting_63 g13 g14 (fun hc => ?_) (fun hc => ?_)
                · rw [if_pos hc] at hf
                  refine ga_al0 C eX5_orderWaiting_66 ?_
                  refine ga_getR C hK eX5_orderWaiting_67 lRX5_51 rfl rfl ?_
                  refine ga_il4 C eX5_orderWaiting_70 ?_
                  refine ga_al0 C eX5_orderWaiting_72 ?_
                  refine ga_getR C hK eX5_orderWaiting_73 lRX5_51 rfl rfl ?_
                  refine ga_il4 C eX5_orderWaiting_76 ?_
                  refine ga_push C eX5_orderWaiting_78 ?_
                  refine ga_isub C eX5_orderWaiting_79 ?_
                  refine ga_iald C hK eX5_orderWaiting_80 rfl (by decide) g11 ?_
                  obtain ⟨g16, hf⟩ := gg_some hf
                  obtain ⟨M15, q15, hf⟩ := gB_some hf
                  refine ga_iast C hK eX5_orderWaiting_81 rfl (by decide) g16 q15 ?_
                  refine ga_ii4 C eX5_orderWaiting_82 ?_
                  refine ga_goto C eX5_orderWaiting_85 ?_
                  refine ga_forget [true, true, true, true, true] rfl ?_
                  exact ih _ _ _ _ _ _ _ hf kx
                · rw [if_neg hc] at hf
                  cases hf
                  exact ga_forget [true, true, true, false, true] rfl kx
              · rw [if_neg hc] at hf
                cases hf
                exact ga_forget [true, true, true, false, true] rfl kx
          obtain ⟨M9, x4_9, hl9, hf⟩ := gb2_some hf
          refine ga_forget [true, true, true, true, true] rfl ?_
          refine L44 G _ _ _ _ _ _ _ hl9 ?_
          refine ga_al0 C eX5_orderWaiting_88 ?_
          refine ga_getR C hK eX5_orderWaiting_89 lRX5_51 rfl rfl ?_
          refine ga_il4 C eX5_orderWaiting_92 ?_
          refine ga_il2 C eX5_orderWaiting_94 ?_
          obtain ⟨g18, hf⟩ := gg_some hf
          obtain ⟨M17, q17, hf⟩ := gB_some hf
          refine ga_iast C hK eX5_orderWaiting_95 rfl (by decide) g18 q17 ?_
          refine ga_ii1 C eX5_orderWaiting_96 ?_
          cases hf
          exact ga_forget [true, true, true, false, false] rfl kx7
        · rw [if_neg hc] at hf
          refine ga_goto C eX5_orderWaiting_32 ?_
          cases hf
          exact ga_forget [true, true, true, false, false] rfl kx7
      · rw [if_neg hc] at hf
        cases hf
        exact ga_forget [false, true, false, false, false] rfl kx
  obtain ⟨M1, x1_1, hl1, hf⟩ := gb2_some hf
  refine ga_forget [true, true, true, false, false] rfl ?_
  refine L4 G _ _ _ _ _ hl1 ?_
  refine ga_il1 C eX5_orderWaiting_105 ?_
  exact ga_iretW C T eX5_orderWaiting_106 hf

set_option maxRecDepth 20000 in
set_option maxHeartbeats 4000000 in
theorem t_X5_layOne {n e cp G : Nat} (hg : gh n e cp) {M Mz : gaM} {v2 : Int} {o1 : Nat} (ho1 : o1 = 4 ∨ o1 = 5) (hf : f_X5_layOne G n M o1 v2 = some Mz) : ga_Met yX5_layOne cX5_layOne 4 none 4 (gk n e cp) M [.inr (some 0), .inr (some o1), .inl v2] none Mz := by
  refine ga_met (by decide) rfl (Nat.le_of_ble_eq_true rfl) ?_
  intro X C hK T
  show ga_W X M 0 [some (.inr (some 0)), some (.inr (some o1)), some (.inl v2), none] []
  unfold f_X5_layOne at hf
  refine ga_al0 C eX5_layOne_0 ?_
  refine ga_getR C hK eX5_layOne_1 lRX5_19 rfl rfl ?_
  refine ga_il2 C eX5_layOne_4 ?_
  obtain ⟨r1, c1, hf⟩ := gb_some hf
  have k1 := gk_get (e := e) (cp := cp) c1
  refine ga_cV1 C hK eX5_layOne_5 nRX5_116 mJx4a65c_get_915e3 vJx4a65c_get_915e3 rfl (t_get hg c1) (by decide) (Nat.le_of_ble_eq_true rfl) ?_
  refine ga_cast (q := gaT_4) C hK eX5_layOne_8 clRX5_101 rfl k1 ?_
  refine ga_as3 C eX5_layOne_11 ?_
  refine ga_al0 C eX5_layOne_12 ?_
  refine ga_getR C hK eX5_layOne_13 lRX5_40 rfl rfl ?_
  refine ga_al0 C eX5_layOne_16 ?_
  refine ga_getR C hK eX5_layOne_17 lRX5_10 rfl rfl ?_
  refine ga_al3 C eX5_layOne_20 ?_
  refine ga_al3 C eX5_layOne_21 ?_
  refine ga_getI C hK eX5_layOne_22 lRX5_165 k1 rfl ?_
  refine ga_al0 C eX5_layOne_25 ?_
  refine ga_getI C hK eX5_layOne_26 lRX5_58 rfl rfl ?_
  obtain ⟨g3, hf⟩ := gg_some hf
  obtain ⟨g4, hf⟩ := gg_some hf
  refine ga_max C eX5_layOne_29 nRX5_224 (by decide) g3 g4 (Nat.le_of_ble_eq_true rfl) ?_
  refine ga_al3 C eX5_layOne_32 ?_
  refine ga_getI C hK eX5_layOne_33 lRX5_182 k1 rfl ?_
  refine ga_push C eX5_layOne_36 ?_
  obtain ⟨M5, c5, hf⟩ := gb_some hf
  refine ga_cV5 C hK eX5_layOne_37 nRX5_193 mX1_fill vX1_fill rfl (t_X1_fill hg k1 c5) (by decide) (Nat.le_of_ble_eq_true rfl) ?_
  refine ga_al0 C eX5_layOne_40 ?_
  refine ga_al3 C eX5_layOne_41 ?_
  refine ga_getI C hK eX5_layOne_42 lRX5_227 k1 rfl ?_
  obtain ⟨r6, c6, hf⟩ := gb_some hf
  refine ga_cV1 C hK eX5_layOne_45 nRX5_156 mX5_isBehind vX5_isBehind rfl (t_X5_isBehind hg c6) (by decide) (Nat.le_of_ble_eq_true rfl) ?_
  obtain ⟨g7, hf⟩ := gg_some hf
  obtain ⟨M8, hx, hf⟩ := gb_some hf
  have kx8 : ga_W X M8 68 [some (.inr (some 0)), some (.inr (some o1)), some (.inl v2), some (.inr (some r1))] [] := by
    refine ga_al0 C eX5_layOne_68 ?_
    refine ga_getR C hK eX5_layOne_69 lRX5_40 rfl rfl ?_
    refine ga_getI C hK eX5_layOne_72 lRX5_200 rfl rfl ?_
    refine ga_push C eX5_layOne_75 ?_
    obtain ⟨g11, hf⟩ := gg_some hf
    refine ga_icmp_ne C eX5_layOne_76 g11 (by decide) (fun hc => ?_) (fun hc => ?_)
    · rw [if_pos hc] at hf
      exact ga_vretW C T eX5_layOne_79 hf
    · rw [if_neg hc] at hf
      refine ga_al1 C eX5_layOne_80 ?_
      refine ga_il2 C eX5_layOne_81 ?_
      refine ga_al0 C eX5_layOne_82 ?_
      refine ga_getR C hK eX5_layOne_83 lRX5_40 rfl rfl ?_
      refine ga_getI C hK eX5_layOne_86 lRX5_233 rfl rfl ?_
      refine ga_al0 C eX5_layOne_89 ?_
      refine ga_getR C hK eX5_layOne_90 lRX5_40 rfl rfl ?_
      refine ga_getI C hK eX5_layOne_93 lRX5_236 rfl rfl ?_
      refine ga_al0 C eX5_layOne_96 ?_
      refine ga_getR C hK eX5_layOne_97 lRX5_40 rfl rfl ?_
      refine ga_getI C hK eX5_layOne_100 lRX5_200 rfl rfl ?_
      obtain ⟨M12, c12, hf⟩ := gb_some hf
      refine ga_cV4 C hK eX5_layOne_103 nRX5_239 mX0_put vX0_put (gk_pl ho1) (t_X0_put hg ho1 c12) (by decide) (Nat.le_of_ble_eq_true rfl) ?_
      refine ga_al0 C eX5_layOne_106 ?_
      refine ga_getR C hK eX5_layOne_107 lRX5_10 rfl rfl ?_
      refine ga_al0 C eX5_layOne_110 ?_
      refine ga_getR C hK eX5_layOne_111 lRX5_40 rfl rfl ?_
      refine ga_getI C hK eX5_layOne_114 lRX5_233 rfl rfl ?_
      refine ga_al0 C eX5_layOne_117 ?_
      refine ga_getR C hK eX5_layOne_118 lRX5_40 rfl rfl ?_
      refine ga_getI C hK eX5_layOne_121 lRX5_236 rfl rfl ?_
      refine ga_al3 C eX5_layOne_124 ?_
      refine ga_getI C hK eX5_layOne_125 lRX5_185 k1 rfl ?_
      obtain ⟨M13, c13, hf⟩ := gb_some hf
      refine ga_cV3 C hK eX5_layOne_128 nRX5_243 mX2_take vX2_take rfl (t_X2_take hg c13) (by decide) (Nat.le_of_ble_eq_true rfl) ?_
      exact ga_vretW C T eX5_layOne_131 hf
  clear hf
  have hf := hx
  refine ga_if_eq C eX5_layOne_48 g7 (fun hc => ?_) (fun hc => ?_)
  · rw [if_pos hc] at hf
    refine ga_al0 C eX5_layOne_61 ?_
    refine ga_getR C hK eX5_layOne_62 lRX5_40 rfl rfl ?_
    obtain ⟨M9, c9, hf⟩ := gb_some hf
    refine ga_cV0 C hK eX5_layOne_65 nRX5_197 mX1_pickCheapest vX1_pickCheapest rfl (t_X1_pickCheapest hg c9) (by decide) (Nat.le_of_ble_eq_true rfl) ?_
    cases hf
    exact ga_forget [true, true, true, true] rfl kx8
  · rw [if_neg hc] at hf
    refine ga_al0 C eX5_layOne_51 ?_
    refine ga_getR C hK eX5_layOne_52 lRX5_40 rfl rfl ?_
    obtain ⟨M10, c10, hf⟩ := gb_some hf
    refine ga_cV0 C hK eX5_layOne_55 nRX5_230 mX1_pickSoonest vX1_pickSoonest rfl (t_X1_pickSoonest hg c10) (by decide) (Nat.le_of_ble_eq_true rfl) ?_
    refine ga_goto C eX5_layOne_58 ?_
    cases hf
    exact ga_forget [true, true, true, true] rfl kx8

set_option maxRecDepth 20000 in
set_option maxHeartbeats 4000000 in
theorem t_X5_makePlan {n e cp G : Nat} (hg : gh n e cp) {M Mz : gaM} {o1 : Nat} (ho1 : o1 = 4 ∨ o1 = 5) (hf : f_X5_makePlan G n M o1 = some Mz) : ga_Met yX5_makePlan cX5_makePlan 5 none 6 (gk n e cp) M [.inr (some 0), .inr (some o1)] none Mz := by
  refine ga_met (by decide) rfl (Nat.le_of_ble_eq_true rfl) ?_
  intro X C hK T
  show ga_W X M 0 [some (.inr (some 0)), some (.inr (some o1)), none, none, none] []
  unfold f_X5_makePlan at hf
  refine ga_al1 C eX5_makePlan_0 ?_
  obtain ⟨M1, c1, hf⟩ := gb_some hf
  refine ga_cV0 C hK eX5_makePlan_1 nRX5_203 mX0_clear vX0_clear (gk_pl ho1) (t_X0_clear hg ho1 c1) (by decide) (Nat.le_of_ble_eq_true rfl) ?_
  refine ga_al0 C eX5_makePlan_4 ?_
  obtain ⟨r2, M2, c2, hf⟩ := gb2_some hf
  refine ga_cV0 C hK eX5_makePlan_5 nRX5_206 mX5_orderWaiting vX5_orderWaiting rfl (t_X5_orderWaiting hg c2) (by decide) (Nat.le_of_ble_eq_true rfl) ?_
  refine ga_is2 C eX5_makePlan_8 ?_
  refine ga_push C eX5_makePlan_9 ?_
  refine ga_is3 C eX5_makePlan_10 ?_
  have L11 : ∀ (F : Nat) (M : gaM) (v2 : Int) (v3 : Int) (M3 : gaM), l_X5_makePlan_11 G n o1 F M v2 v3 = some M3 → ga_W X M3 33 [some (.inr (some 0)), some (.inr (some o1)), some (.inl v2), none, none] [] → ga_W X M 11 [some (.inr (some 0)), some (.inr (some o1)), some (.inl v2), some (.inl v3), none] [] := by
    intro F
    induction F with
    | zero =>
      intro M v2 v3 M3 hf kx
      cases hf
    | succ F ih =>
      intro M v2 v3 M3 hf kx
      rw [l_X5_makePlan_11] at hf
      refine ga_il3 C eX5_makePlan_11 ?_
      refine ga_il2 C eX5_makePlan_12 ?_
      obtain ⟨g4, hf⟩ := gg_some hf
      obtain ⟨g5, hf⟩ := gg_some hf
      refine ga_icmp_ge C eX5_makePlan_13 g4 g5 (fun hc => ?_) (fun hc => ?_)
      · rw [if_pos hc] at hf
        refine ga_al0 C eX5_makePlan_16 ?_
        refine ga_al1 C eX5_makePlan_17 ?_
        refine ga_al0 C eX5_makePlan_18 ?_
        refine ga_getR C hK eX5_makePlan_19 lRX5_51 rfl rfl ?_
        refine ga_il3 C eX5_makePlan_22 ?_
        obtain ⟨g6, hf⟩ := gg_some hf
        refine ga_iald C hK eX5_makePlan_23 rfl (by decide) g6 ?_
        obtain ⟨M7, c7, hf⟩ := gb_some hf
        refine ga_cV2 C hK eX5_makePlan_24 nRX5_209 mX5_layOne vX5_layOne rfl (t_X5_layOne hg ho1 c7) (by decide) (Nat.le_of_ble_eq_true rfl) ?_
        refine ga_ii3 C eX5_makePlan_27 ?_
        refine ga_goto C eX5_makePlan_30 ?_
        refine ga_forget [true, true, true, true, false] rfl ?_
        exact ih _ _ _ _ hf kx
      · rw [if_neg hc] at hf
        cases hf
        exact ga_forget [true, true, true, false, false] rfl kx
  obtain ⟨M3, hl3, hf⟩ := gb_some hf
  refine ga_forget [true, true, true, true, false] rfl ?_
  refine L11 G _ _ _ _ hl3 ?_
  refine ga_push C eX5_makePlan_33 ?_
  refine ga_is3 C eX5_makePlan_34 ?_
  have L35 : ∀ (F : Nat) (M : gaM) (v2 : Int) (v3 : Int) (M8 : gaM), l_X5_makePlan_35 G n o1 F M v2 v3 = some M8 → ga_W X M8 99 [none, none, none, none, none] [] → ga_W X M 35 [some (.inr (some 0)), some (.inr (some o1)), some (.inl v2), some (.inl v3), none] [] := by
    intro F
    induction F with
    | zero =>
      intro M v2 v3 M8 hf kx
      cases hf
    | succ F ih =>
      intro M v2 v3 M8 hf kx
      rw [l_X5_makePlan_35] at hf
      refine ga_il3 C eX5_makePlan_35 ?_
      refine ga_il2 C eX5_makePlan_36 ?_
      obtain ⟨g9, hf⟩ := gg_some hf
      obtain ⟨g10, hf⟩ := gg_some hf
      refine ga_icmp_ge C eX5_makePlan_37 g9 g10 (fun hc => ?_) (fun hc => ?_)
      · rw [if_pos hc] at hf
        refine ga_al0 C eX5_makePlan_40 ?_
        refine ga_getR C hK eX5_makePlan_41 lRX5_51 rfl rfl ?_
        refine ga_il3 C eX5_makePlan_44 ?_
        obtain ⟨g11, hf⟩ := gg_some hf
        refine ga_iald C hK eX5_makePlan_45 rfl (by decide) g11 ?_
        refine ga_is4 C eX5_makePlan_46 ?_
        refine ga_al1 C eX5_makePlan_48 ?_
        refine ga_il4 C eX5_makePlan_49 ?_
        obtain ⟨r12, c12, hf⟩ := gb_some hf
        refine ga_cV1 C hK eX5_makePlan_51 nRX5_213 mX0_has vX0_has (gk_pl ho1) (t_X0_has hg ho1 c12) (by decide) (Nat.le_of_ble_eq_true rfl) ?_
        obtain ⟨g13, hf⟩ := gg_some hf
        obtain ⟨M14, hx, hf⟩ := gb_some hf
        have kx14 : ga_W X M14 93 [some (.inr (some 0)), some (.inr (some o1)), some (.inl v2), some (.inl v3), none] [] := by
          refine ga_ii3 C eX5_makePlan_93 ?_
          refine ga_goto C eX5_makePlan_96 ?_
          refine ga_forget [true, true, true, true, false] rfl ?_
          exact ih _ _ _ _ hf kx
        clear hf
        have hf := hx
        refine ga_if_eq C eX5_makePlan_54 g13 (fun hc => ?_) (fun hc => ?_)
        · rw [if_pos hc] at hf
          cases hf
          exact ga_forget [true, true, true, true, false] rfl kx14
        · rw [if_neg hc] at hf
          refine ga_al0 C eX5_makePlan_57 ?_
          refine ga_getR C hK eX5_makePlan_58 lRX5_10 rfl rfl ?_
          refine ga_al1 C eX5_makePlan_61 ?_
          refine ga_getR C hK eX5_makePlan_62 lRX5_214 (gk_pl ho1) rfl ?_
          refine ga_il4 C eX5_makePlan_65 ?_
          obtain ⟨g15, hf⟩ := gg_some hf
          refine ga_iald C hK eX5_makePlan_67 (gk_pa0 ho1) (by decide) g15 ?_
          refine ga_al1 C eX5_makePlan_68 ?_
          refine ga_getR C hK eX5_makePlan_69 lRX5_217 (gk_pl ho1) rfl ?_
          refine ga_il4 C eX5_makePlan_72 ?_
          refine ga_iald C hK eX5_makePlan_74 (gk_pa1 ho1) (by decide) g15 ?_
          refine ga_al0 C eX5_makePlan_75 ?_
          refine ga_getR C hK eX5_makePlan_76 lRX5_19 rfl rfl ?_
          refine ga_il4 C eX5_makePlan_79 ?_
          obtain ⟨r16, c16, hf⟩ := gb_some hf
          have k16 := gk_get (e := e) (cp := cp) c16
          refine ga_cV1 C hK eX5_makePlan_81 nRX5_116 mJx4a65c_get_915e3 vJx4a65c_get_915e3 rfl (t_get hg c16) (by decide) (Nat.le_of_ble_eq_true rfl) ?_
          refine ga_cast (q := gaT_4) C hK eX5_makePlan_84 clRX5_101 rfl k16 ?_
          refine ga_getI C hK eX5_makePlan_87 lRX5_185 k16 rfl ?_
          obtain ⟨M17, c17, hf⟩ := gb_some hf
          refine ga_cV3 C hK eX5_makePlan_90 nRX5_220 mX2_giveBack vX2_giveBack rfl (t_X2_giveBack hg c17) (by decide) (Nat.le_of_ble_eq_true rfl) ?_
          cases hf
          exact ga_forget [true, true, true, true, false] rfl kx14
      · rw [if_neg hc] at hf
        cases hf
        exact ga_forget [false, false, false, false, false] rfl kx
  obtain ⟨M8, hl8, hf⟩ := gb_some hf
  refine ga_forget [true, true, true, true, false] rfl ?_
  refine L35 G _ _ _ _ hl8 ?_
  exact ga_vretW C T eX5_makePlan_99 hf

set_option maxRecDepth 20000 in
set_option maxHeartbeats 4000000 in
theorem t_X5_lay {n e cp G : Nat} (hg : gh n e cp) {M Mz : gaM} {rz : Int}  (hf : f_X5_lay G n M = some (rz, Mz)) : ga_Met yX5_lay cX5_lay 1 (some .int) 7 (gk n e cp) M [.inr (some 0)] (some (.inl rz)) Mz := by
  refine ga_met (by decide) rfl (Nat.le_of_ble_eq_true rfl) ?_
  intro X C hK T
  show ga_W X M 0 [some (.inr (some 0))] []
  unfold f_X5_lay at hf
  refine ga_al0 C eX5_lay_0 ?_
  refine ga_al0 C eX5_lay_1 ?_
  refine ga_getR C hK eX5_lay_2 lRX5_30 rfl rfl ?_
  obtain ⟨M1, c1, hf⟩ := gb_some hf
  refine ga_cV1 C hK eX5_lay_5 nRX5_129 mX5_makePlan vX5_makePlan rfl (t_X5_makePlan hg (Or.inl rfl) c1) (by decide) (Nat.le_of_ble_eq_true rfl) ?_
  refine ga_al0 C eX5_lay_8 ?_
  refine ga_getR C hK eX5_lay_9 lRX5_30 rfl rfl ?_
  refine ga_getI C hK eX5_lay_12 lRX5_133 rfl rfl ?_
  exact ga_iretW C T eX5_lay_15 hf

set_option maxRecDepth 20000 in
set_option maxHeartbeats 4000000 in
theorem t_X5_laid {n e cp G : Nat} (hg : gh n e cp) {M : gaM} {v1 v2 : Int} {rz : Int}  (hf : f_X5_laid G n M v1 v2 = some rz) : ga_Met yX5_laid cX5_laid 3 (some .int) 2 (gk n e cp) M [.inr (some 0), .inl v1, .inl v2] (some (.inl rz)) M := by
  refine ga_met (by decide) rfl (Nat.le_of_ble_eq_true rfl) ?_
  intro X C hK T
  show ga_W X M 0 [some (.inr (some 0)), some (.inl v1), some (.inl v2)] []
  unfold f_X5_laid at hf
  refine ga_il1 C eX5_laid_0 ?_
  refine ga_push C eX5_laid_1 ?_
  refine ga_push C eX5_laid_2 ?_
  obtain ⟨r1, c1, hf⟩ := gb_some hf
  refine ga_cS3 C hK eX5_laid_4 nRX5_71 mX5_within sX5_within (t_X5_within hg c1) (by decide) (Nat.le_of_ble_eq_true rfl) ?_
  obtain ⟨g2, hf⟩ := gg_some hf
  refine ga_if_eq C eX5_laid_7 g2 (fun hc => ?_) (fun hc => ?_)
  · rw [if_pos hc] at hf
    refine ga_push C eX5_laid_22 ?_
    exact ga_iret0 C T eX5_laid_23 hf
  · rw [if_neg hc] at hf
    refine ga_al0 C eX5_laid_10 ?_
    refine ga_getR C hK eX5_laid_11 lRX5_30 rfl rfl ?_
    refine ga_il1 C eX5_laid_14 ?_
    refine ga_il2 C eX5_laid_15 ?_
    obtain ⟨r3, c3, hf⟩ := gb_some hf
    refine ga_cV2 C hK eX5_laid_16 nRX5_135 mX0_tell vX0_tell rfl (t_X0_tell hg (Or.inl rfl) c3) (by decide) (Nat.le_of_ble_eq_true rfl) ?_
    refine ga_goto C eX5_laid_19 ?_
    exact ga_iret0 C T eX5_laid_23 hf

set_option maxRecDepth 20000 in
set_option maxHeartbeats 4000000 in
theorem t_X5_cost {n e cp G : Nat} (hg : gh n e cp) {M : gaM} {rz : Int}  (hf : f_X5_cost G n M = some rz) : ga_Met yX5_cost cX5_cost 1 (some .int) 0 (gk n e cp) M [.inr (some 0)] (some (.inl rz)) M := by
  refine ga_met (by decide) rfl (Nat.le_of_ble_eq_true rfl) ?_
  intro X C hK T
  show ga_W X M 0 [some (.inr (some 0))] []
  unfold f_X5_cost at hf
  refine ga_al0 C eX5_cost_0 ?_
  refine ga_getR C hK eX5_cost_1 lRX5_30 rfl rfl ?_
  refine ga_getI C hK eX5_cost_4 lRX5_138 rfl rfl ?_
  exact ga_iret0 C T eX5_cost_7 hf

set_option maxRecDepth 20000 in
set_option maxHeartbeats 4000000 in
theorem t_X5_countOf {n e cp G : Nat} (hg : gh n e cp) {M : gaM} {v1 : Int} {rz : Int}  (hf : f_X5_countOf G n M v1 = some rz) : ga_Met yX5_countOf cX5_countOf 4 (some .int) 4 (gk n e cp) M [.inr (some 0), .inl v1] (some (.inl rz)) M := by
  refine ga_met (by decide) rfl (Nat.le_of_ble_eq_true rfl) ?_
  intro X C hK T
  show ga_W X M 0 [some (.inr (some 0)), some (.inl v1), none, none] []
  unfold f_X5_countOf at hf
  refine ga_push C eX5_countOf_0 ?_
  refine ga_is2 C eX5_countOf_1 ?_
  refine ga_push C eX5_countOf_2 ?_
  refine ga_is3 C eX5_countOf_3 ?_
  have L4 : ∀ (F : Nat) (v1 : Int) (v2 : Int) (v3 : Int) (x2_1 : Int), l_X5_countOf_4 G n M F v1 v2 v3 = some x2_1 → ga_W X M 42 [none, none, some (.inl x2_1), none] [] → ga_W X M 4 [some (.inr (some 0)), some (.inl v1), some (.inl v2), some (.inl v3)] [] := by
    intro F
    induction F with
    | zero =>
      intro v1 v2 v3 x2_1 hf kx
      cases hf
    | succ F ih =>
      intro v1 v2 v3 x2_1 hf kx
      rw [l_X5_countOf_4] at hf
      refine ga_il3 C eX5_countOf_4 ?_
      refine ga_al0 C eX5_countOf_5 ?_
      refine ga_getR C hK eX5_countOf_6 lRX5_19 rfl rfl ?_
      obtain ⟨r2, c2, hf⟩ := gb_some hf
      refine ga_cV0 C hK eX5_countOf_9 nRX5_109 mJx4a65c_size_8abf5 vJx4a65c_size_8abf5 rfl (t_Jx4a65c_size_8abf5 hg c2) (by decide) (Nat.le_of_ble_eq_true rfl) ?_
      obtain ⟨g3, hf⟩ := gg_some hf
      obtain ⟨g4, hf⟩ := gg_some hf
      refine ga_icmp_ge C eX5_countOf_12 g3 g4 (fun hc => ?_) (fun hc => ?_)
      · rw [if_pos hc] at hf
        refine ga_al0 C eX5_countOf_15 ?_
        refine ga_getR C hK eX5_countOf_16 lRX5_19 rfl rfl ?_
        refine ga_il3 C eX5_countOf_19 ?_
        obtain ⟨r5, c5, hf⟩ := gb_some hf
        have k5 := gk_get (e := e) (cp := cp) c5
        refine ga_cV1 C hK eX5_countOf_20 nRX5_116 mJx4a65c_get_915e3 vJx4a65c_get_915e3 rfl (t_get hg c5) (by decide) (Nat.le_of_ble_eq_true rfl) ?_
        refine ga_cast (q := gaT_4) C hK eX5_countOf_23 clRX5_101 rfl k5 ?_
        refine ga_getI C hK eX5_countOf_26 lRX5_120 k5 rfl ?_
        refine ga_il1 C eX5_countOf_29 ?_
        obtain ⟨g6, hf⟩ := gg_some hf
        obtain ⟨g7, hf⟩ := gg_some hf
        obtain ⟨x2_8, hx, hf⟩ := gb_some hf
        have kx8 : ga_W X M 36 [some (.inr (some 0)), some (.inl v1), some (.inl x2_8), some (.inl v3)] [] := by
          refine ga_ii3 C eX5_countOf_36 ?_
          refine ga_goto C eX5_countOf_39 ?_
          refine ga_forget [true, true, true, true] rfl ?_
          exact ih _ _ _ _ hf kx
        clear hf
        have hf := hx
        refine ga_icmp_ne C eX5_countOf_30 g6 g7 (fun hc => ?_) (fun hc => ?_)
        · rw [if_pos hc] at hf
          refine ga_ii2 C eX5_countOf_33 ?_
          cases hf
          exact ga_forget [true, true, true, true] rfl kx8
        · rw [if_neg hc] at hf
          cases hf
          exact ga_forget [true, true, true, true] rfl kx8
      · rw [if_neg hc] at hf
        cases hf
        exact ga_forget [false, false, true, false] rfl kx
  obtain ⟨x2_1, hl1, hf⟩ := gb_some hf
  refine ga_forget [true, true, true, true] rfl ?_
  refine L4 G _ _ _ _ hl1 ?_
  refine ga_il2 C eX5_countOf_42 ?_
  exact ga_iret0 C T eX5_countOf_43 hf

set_option maxRecDepth 20000 in
set_option maxHeartbeats 4000000 in
theorem t_X5_leastTogether {n e cp G : Nat} (hg : gh n e cp) {M Mz : gaM} {rz : Int}  (hf : f_X5_leastTogether G n M = some (rz, Mz)) : ga_Met yX5_leastTogether cX5_leastTogether 3 (some .int) 8 (gk n e cp) M [.inr (some 0)] (some (.inl rz)) Mz := by
  refine ga_met (by decide) rfl (Nat.le_of_ble_eq_true rfl) ?_
  intro X C hK T
  show ga_W X M 0 [some (.inr (some 0)), none, none] []
  unfold f_X5_leastTogether at hf
  refine ga_al0 C eX5_leastTogether_0 ?_
  refine ga_getR C hK eX5_leastTogether_1 lRX5_47 rfl rfl ?_
  obtain ⟨M1, c1, hf⟩ := gb_some hf
  refine ga_cV0 C hK eX5_leastTogether_4 nRX5_249 mX3_clear vX3_clear rfl (t_X3_clear hg c1) (by decide) (Nat.le_of_ble_eq_true rfl) ?_
  refine ga_push C eX5_leastTogether_7 ?_
  refine ga_is1 C eX5_leastTogether_8 ?_
  have L9 : ∀ (F : Nat) (M : gaM) (v1 : Int) (M2 : gaM), l_X5_leastTogether_9 G n F M v1 = some M2 → ga_W X M2 85 [some (.inr (some 0)), none, none] [] → ga_W X M 9 [some (.inr (some 0)), some (.inl v1), none] [] := by
    intro F
    induction F with
    | zero =>
      intro M v1 M2 hf kx
      cases hf
    | succ F ih =>
      intro M v1 M2 hf kx
      rw [l_X5_leastTogether_9] at hf
      refine ga_il1 C eX5_leastTogether_9 ?_
      refine ga_al0 C eX5_leastTogether_10 ?_
      refine ga_getR C hK eX5_leastTogether_11 lRX5_19 rfl rfl ?_
      obtain ⟨r3, c3, hf⟩ := gb_some hf
      refine ga_cV0 C hK eX5_leastTogether_14 nRX5_109 mJx4a65c_size_8abf5 vJx4a65c_size_8abf5 rfl (t_Jx4a65c_size_8abf5 hg c3) (by decide) (Nat.le_of_ble_eq_true rfl) ?_
      obtain ⟨g4, hf⟩ := gg_some hf
      obtain ⟨g5, hf⟩ := gg_some hf
      refine ga_icmp_ge C eX5_leastTogether_17 g4 g5 (fun hc => ?_) (fun hc => ?_)
      · rw [if_pos hc] at hf
        refine ga_al0 C eX5_leastTogether_20 ?_
        refine ga_getR C hK eX5_leastTogether_21 lRX5_19 rfl rfl ?_
        refine ga_il1 C eX5_leastTogether_24 ?_
        obtain ⟨r6, c6, hf⟩ := gb_some hf
        have k6 := gk_get (e := e) (cp := cp) c6
        refine ga_cV1 C hK eX5_leastTogether_25 nRX5_116 mJx4a65c_get_915e3 vJx4a65c_get_915e3 rfl (t_get hg c6) (by decide) (Nat.le_of_ble_eq_true rfl) ?_
        refine ga_cast (q := gaT_4) C hK eX5_leastTogether_28 clRX5_101 rfl k6 ?_
        refine ga_as2 C eX5_leastTogether_31 ?_
        refine ga_al2 C eX5_leastTogether_32 ?_
        refine ga_getI C hK eX5_leastTogether_33 lRX5_120 k6 rfl ?_
        obtain ⟨g7, hf⟩ := gg_some hf
        obtain ⟨M8, hx, hf⟩ := gb_some hf
        have kx8 : ga_W X M8 79 [some (.inr (some 0)), some (.inl v1), none] [] := by
          refine ga_ii1 C eX5_leastTogether_79 ?_
          refine ga_goto C eX5_leastTogether_82 ?_
          refine ga_forget [true, true, false] rfl ?_
          exact ih _ _ _ hf kx
        clear hf
        have hf := hx
        refine ga_if_ne C eX5_leastTogether_36 g7 (fun hc => ?_) (fun hc => ?_)
        · rw [if_pos hc] at hf
          refine ga_al0 C eX5_leastTogether_39 ?_
          refine ga_getR C hK eX5_leastTogether_40 lRX5_40 rfl rfl ?_
          refine ga_al0 C eX5_leastTogether_43 ?_
          refine ga_getR C hK eX5_leastTogether_44 lRX5_10 rfl rfl ?_
          refine ga_al2 C eX5_leastTogether_47 ?_
          refine ga_al2 C eX5_leastTogether_48 ?_
          refine ga_getI C hK eX5_leastTogether_49 lRX5_165 k6 rfl ?_
          refine ga_al0 C eX5_leastTogether_52 ?_
          refine ga_getI C hK eX5_leastTogether_53 lRX5_58 rfl rfl ?_
          obtain ⟨g10, hf⟩ := gg_some hf
          obtain ⟨g11, hf⟩ := gg_some hf
          refine ga_max C eX5_leastTogether_56 nRX5_224 (by decide) g10 g11 (Nat.le_of_ble_eq_true rfl) ?_
          refine ga_al2 C eX5_leastTogether_59 ?_
          refine ga_getI C hK eX5_leastTogether_60 lRX5_182 k6 rfl ?_
          refine ga_push C eX5_leastTogether_63 ?_
          obtain ⟨M12, c12, hf⟩ := gb_some hf
          refine ga_cV5 C hK eX5_leastTogether_64 nRX5_193 mX1_fill vX1_fill rfl (t_X1_fill hg k6 c12) (by decide) (Nat.le_of_ble_eq_true rfl) ?_
          refine ga_al0 C eX5_leastTogether_67 ?_
          refine ga_getR C hK eX5_leastTogether_68 lRX5_47 rfl rfl ?_
          refine ga_al2 C eX5_leastTogether_71 ?_
          refine ga_al0 C eX5_leastTogether_72 ?_
          refine ga_getR C hK eX5_leastTogether_73 lRX5_40 rfl rfl ?_
          obtain ⟨M13, c13, hf⟩ := gb_some hf
          refine ga_cV2 C hK eX5_leastTogether_76 nRX5_250 mX3_add vX3_add rfl (t_X3_add hg k6 c13) (by decide) (Nat.le_of_ble_eq_true rfl) ?_
          cases hf
          exact ga_forget [true, true, false] rfl kx8
        · rw [if_neg hc] at hf
          cases hf
          exact ga_forget [true, true, false] rfl kx8
      · rw [if_neg hc] at hf
        cases hf
        exact ga_forget [true, false, false] rfl kx
  obtain ⟨M2, hl2, hf⟩ := gb_some hf
  refine ga_forget [true, true, false] rfl ?_
  refine L9 G _ _ _ hl2 ?_
  refine ga_al0 C eX5_leastTogether_85 ?_
  refine ga_getR C hK eX5_leastTogether_86 lRX5_47 rfl rfl ?_
  refine ga_al0 C eX5_leastTogether_89 ?_
  refine ga_getR C hK eX5_leastTogether_90 lRX5_10 rfl rfl ?_
  obtain ⟨r14, M14, c14, hf⟩ := gb2_some hf
  refine ga_cV1 C hK eX5_leastTogether_93 nRX5_253 mX3_least vX3_least rfl (t_X3_least hg c14) (by decide) (Nat.le_of_ble_eq_true rfl) ?_
  exact ga_iretW C T eX5_leastTogether_96 hf

set_option maxRecDepth 20000 in
set_option maxHeartbeats 4000000 in
theorem t_X5_best {n e cp G : Nat} (hg : gh n e cp) {M Mz : gaM} {rz : Int}  (hf : f_X5_best G n M = some (rz, Mz)) : ga_Met yX5_best cX5_best 3 (some .int) 9 (gk n e cp) M [.inr (some 0)] (some (.inl rz)) Mz := by
  refine ga_met (by decide) rfl (Nat.le_of_ble_eq_true rfl) ?_
  intro X C hK T
  show ga_W X M 0 [some (.inr (some 0)), none, none] []
  unfold f_X5_best at hf
  refine ga_al0 C eX5_best_0 ?_
  refine ga_push C eX5_best_1 ?_
  obtain ⟨r1, c1, hf⟩ := gb_some hf
  refine ga_cV1 C hK eX5_best_2 nRX5_141 mX5_countOf vX5_countOf rfl (t_X5_countOf hg c1) (by decide) (Nat.le_of_ble_eq_true rfl) ?_
  refine ga_is1 C eX5_best_5 ?_
  refine ga_il1 C eX5_best_6 ?_
  refine ga_push C eX5_best_7 ?_
  obtain ⟨g2, hf⟩ := gg_some hf
  obtain ⟨M3, s0_3, hx, hf⟩ := gb2_some hf
  have kx3 : ga_W X M3 19 [some (.inr (some 0)), none, none] [.inl s0_3] := by
    refine ga_is2 C eX5_best_19 ?_
    refine ga_al0 C eX5_best_20 ?_
    refine ga_il2 C eX5_best_21 ?_
    refine ga_push C eX5_best_22 ?_
    obtain ⟨g5, hf⟩ := gg_some hf
    obtain ⟨s0_6, hx, hf⟩ := gb_some hf
    have kx6 : ga_W X M3 31 [none, none, some (.inl s0_3)] [.inl s0_6, .inr (some 0)] := by
      obtain ⟨M7, q7, hf⟩ := gB_some hf
      refine ga_putI C hK eX5_best_31 lRX5_61 (by intro q hq; cases hq; exact ⟨rfl, rfl⟩) rfl rfl q7 ?_
      refine ga_il2 C eX5_best_34 ?_
      exact ga_iretW C T eX5_best_35 hf
    clear hf
    have hf := hx
    refine ga_icmp_ne C eX5_best_23 g5 (by decide) (fun hc => ?_) (fun hc => ?_)
    · rw [if_pos hc] at hf
      refine ga_push C eX5_best_26 ?_
      refine ga_goto C eX5_best_27 ?_
      cases hf
      exact ga_forget [false, false, true] rfl kx6
    · rw [if_neg hc] at hf
      refine ga_push C eX5_best_30 ?_
      cases hf
      exact ga_forget [false, false, true] rfl kx6
  clear hf
  have hf := hx
  refine ga_icmp_gt C eX5_best_8 g2 (by decide) (fun hc => ?_) (fun hc => ?_)
  · rw [if_pos hc] at hf
    refine ga_al0 C eX5_best_11 ?_
    obtain ⟨r4, M4, c4, hf⟩ := gb2_some hf
    refine ga_cV0 C hK eX5_best_12 nRX5_144 mX5_leastTogether vX5_leastTogether rfl (t_X5_leastTogether hg c4) (by decide) (Nat.le_of_ble_eq_true rfl) ?_
    refine ga_goto C eX5_best_15 ?_
    cases hf
    exact ga_forget [true, false, false] rfl kx3
  · rw [if_neg hc] at hf
    refine ga_push C eX5_best_18 ?_
    cases hf
    exact ga_forget [true, false, false] rfl kx3

set_option maxRecDepth 20000 in
set_option maxHeartbeats 4000000 in
theorem t_X5_free {n e cp G : Nat} (hg : gh n e cp) {M : gaM} {v1 v2 : Int} {rz : Int}  (hf : f_X5_free G n M v1 v2 = some rz) : ga_Met yX5_free cX5_free 3 (some .int) 1 (gk n e cp) M [.inr (some 0), .inl v1, .inl v2] (some (.inl rz)) M := by
  refine ga_met (by decide) rfl (Nat.le_of_ble_eq_true rfl) ?_
  intro X C hK T
  show ga_W X M 0 [some (.inr (some 0)), some (.inl v1), some (.inl v2)] []
  unfold f_X5_free at hf
  refine ga_al0 C eX5_free_0 ?_
  refine ga_getR C hK eX5_free_1 lRX5_10 rfl rfl ?_
  refine ga_il1 C eX5_free_4 ?_
  obtain ⟨r1, c1, hf⟩ := gb_some hf
  refine ga_cV1 C hK eX5_free_5 nRX5_86 mX2_has vX2_has rfl (t_X2_has hg c1) (by decide) (Nat.le_of_ble_eq_true rfl) ?_
  obtain ⟨g2, hf⟩ := gg_some hf
  refine ga_if_eq C eX5_free_8 g2 (fun hc => ?_) (fun hc => ?_)
  · rw [if_pos hc] at hf
    refine ga_push C eX5_free_25 ?_
    exact ga_iret0 C T eX5_free_26 hf
  · rw [if_neg hc] at hf
    refine ga_il2 C eX5_free_11 ?_
    refine ga_al0 C eX5_free_12 ?_
    refine ga_getI C hK eX5_free_13 lRX5_58 rfl rfl ?_
    refine ga_push C eX5_free_16 ?_
    obtain ⟨r3, c3, hf⟩ := gb_some hf
    refine ga_cS3 C hK eX5_free_19 nRX5_71 mX5_within sX5_within (t_X5_within hg c3) (by decide) (Nat.le_of_ble_eq_true rfl) ?_
    obtain ⟨g4, hf⟩ := gg_some hf
    refine ga_if_ne C eX5_free_22 g4 (fun hc => ?_) (fun hc => ?_)
    · rw [if_pos hc] at hf
      refine ga_push C eX5_free_25 ?_
      exact ga_iret0 C T eX5_free_26 hf
    · rw [if_neg hc] at hf
      refine ga_al0 C eX5_free_27 ?_
      refine ga_getR C hK eX5_free_28 lRX5_10 rfl rfl ?_
      refine ga_getR C hK eX5_free_31 lRX5_147 rfl rfl ?_
      refine ga_il1 C eX5_free_34 ?_
      obtain ⟨g5, hf⟩ := gg_some hf
      refine ga_aald C hK eX5_free_35 rfl (Or.inl rfl) (by decide) g5 ?_
      refine ga_il2 C eX5_free_36 ?_
      obtain ⟨g6, hf⟩ := gg_some hf
      refine ga_iald C hK eX5_free_37 (gk_r30 g5) (by decide) g6 ?_
      exact ga_iret0 C T eX5_free_38 hf

set_option maxRecDepth 20000 in
set_option maxHeartbeats 4000000 in
theorem t_X5_troubleOfPass {n e cp G : Nat} (hg : gh n e cp) {M : gaM} {v1 : Int} {rz : Int}  (hf : f_X5_troubleOfPass G n M v1 = some rz) : ga_Met yX5_troubleOfPass cX5_troubleOfPass 2 (some .int) 1 (gk n e cp) M [.inr (some 0), .inl v1] (some (.inl rz)) M := by
  refine ga_met (by decide) rfl (Nat.le_of_ble_eq_true rfl) ?_
  intro X C hK T
  show ga_W X M 0 [some (.inr (some 0)), some (.inl v1)] []
  unfold f_X5_troubleOfPass at hf
  refine ga_il1 C eX5_troubleOfPass_0 ?_
  refine ga_push C eX5_troubleOfPass_1 ?_
  refine ga_push C eX5_troubleOfPass_2 ?_
  obtain ⟨r1, c1, hf⟩ := gb_some hf
  refine ga_cS3 C hK eX5_troubleOfPass_4 nRX5_71 mX5_within sX5_within (t_X5_within hg c1) (by decide) (Nat.le_of_ble_eq_true rfl) ?_
  obtain ⟨g2, hf⟩ := gg_some hf
  refine ga_if_ne C eX5_troubleOfPass_7 g2 (fun hc => ?_) (fun hc => ?_)
  · rw [if_pos hc] at hf
    refine ga_push C eX5_troubleOfPass_10 ?_
    exact ga_iret0 C T eX5_troubleOfPass_11 hf
  · rw [if_neg hc] at hf
    refine ga_al0 C eX5_troubleOfPass_12 ?_
    refine ga_getI C hK eX5_troubleOfPass_13 lRX5_58 rfl rfl ?_
    refine ga_il1 C eX5_troubleOfPass_16 ?_
    refine ga_iadd C eX5_troubleOfPass_17 ?_
    refine ga_push C eX5_troubleOfPass_18 ?_
    obtain ⟨g3, hf⟩ := gg_some hf
    refine ga_icmp_ge C eX5_troubleOfPass_21 g3 (by decide) (fun hc => ?_) (fun hc => ?_)
    · rw [if_pos hc] at hf
      refine ga_push C eX5_troubleOfPass_24 ?_
      refine ga_goto C eX5_troubleOfPass_25 ?_
      exact ga_iret0 C T eX5_troubleOfPass_29 hf
    · rw [if_neg hc] at hf
      refine ga_push C eX5_troubleOfPass_28 ?_
      exact ga_iret0 C T eX5_troubleOfPass_29 hf

set_option maxRecDepth 20000 in
set_option maxHeartbeats 4000000 in
theorem t_X5_beginLaid {n e cp G : Nat} (hg : gh n e cp) {M Mz : gaM}  (hf : f_X5_beginLaid G n M = some Mz) : ga_Met yX5_beginLaid cX5_beginLaid 3 none 4 (gk n e cp) M [.inr (some 0)] none Mz := by
  refine ga_met (by decide) rfl (Nat.le_of_ble_eq_true rfl) ?_
  intro X C hK T
  show ga_W X M 0 [some (.inr (some 0)), none, none] []
  unfold f_X5_beginLaid at hf
  refine ga_push C eX5_beginLaid_0 ?_
  refine ga_is1 C eX5_beginLaid_1 ?_
  have L2 : ∀ (F : Nat) (M : gaM) (v1 : Int) (M1 : gaM), l_X5_beginLaid_2 G n F M v1 = some M1 → ga_W X M1 124 [none, none, none] [] → ga_W X M 2 [some (.inr (some 0)), some (.inl v1), none] [] := by
    intro F
    induction F with
    | zero =>
      intro M v1 M1 hf kx
      cases hf
    | succ F ih =>
      intro M v1 M1 hf kx
      rw [l_X5_beginLaid_2] at hf
      refine ga_il1 C eX5_beginLaid_2 ?_
      refine ga_al0 C eX5_beginLaid_3 ?_
      refine ga_getR C hK eX5_beginLaid_4 lRX5_19 rfl rfl ?_
      obtain ⟨r2, c2, hf⟩ := gb_some hf
      refine ga_cV0 C hK eX5_beginLaid_7 nRX5_109 mJx4a65c_size_8abf5 vJx4a65c_size_8abf5 rfl (t_Jx4a65c_size_8abf5 hg c2) (by decide) (Nat.le_of_ble_eq_true rfl) ?_
      obtain ⟨g3, hf⟩ := gg_some hf
      obtain ⟨g4, hf⟩ := gg_some hf
      refine ga_icmp_ge C eX5_beginLaid_10 g3 g4 (fun hc => ?_) (fun hc => ?_)
      · rw [if_pos hc] at hf
        refine ga_al0 C eX5_beginLaid_13 ?_
        refine ga_getR C hK eX5_beginLaid_14 lRX5_34 rfl rfl ?_
        refine ga_il1 C eX5_beginLaid_17 ?_
        obtain ⟨r5, c5, hf⟩ := gb_some hf
        refine ga_cV1 C hK eX5_beginLaid_18 nRX5_213 mX0_has vX0_has rfl (t_X0_has hg (Or.inr rfl) c5) (by decide) (Nat.le_of_ble_eq_true rfl) ?_
        obtain ⟨g6, hf⟩ := gg_some hf
        obtain ⟨M7, hx, hf⟩ := gb_some hf
        have kx7 : ga_W X M7 118 [some (.inr (some 0)), some (.inl v1), none] [] := by
          refine ga_ii1 C eX5_beginLaid_118 ?_
          refine ga_goto C eX5_beginLaid_121 ?_
          refine ga_forget [true, true, false] rfl ?_
          exact ih _ _ _ hf kx
        clear hf
        have hf := hx
        refine ga_if_eq C eX5_beginLaid_21 g6 (fun hc => ?_) (fun hc => ?_)
        · rw [if_pos hc] at hf
          cases hf
          exact ga_forget [true, true, false] rfl kx7
        · rw [if_neg hc] at hf
          refine ga_al0 C eX5_beginLaid_24 ?_
          refine ga_getR C hK eX5_beginLaid_25 lRX5_34 rfl rfl ?_
          refine ga_getR C hK eX5_beginLaid_28 lRX5_217 rfl rfl ?_
          refine ga_il1 C eX5_beginLaid_31 ?_
          obtain ⟨g8, hf⟩ := gg_some hf
          refine ga_iald C hK eX5_beginLaid_32 (gk_pa1 (Or.inr rfl)) (by decide) g8 ?_
          refine ga_al0 C eX5_beginLaid_33 ?_
          refine ga_getI C hK eX5_beginLaid_34 lRX5_58 rfl rfl ?_
          obtain ⟨g9, hf⟩ := gg_some hf
          obtain ⟨g10, hf⟩ := gg_some hf
          refine ga_icmp_ne C eX5_beginLaid_37 g9 g10 (fun hc => ?_) (fun hc => ?_)
          · rw [if_pos hc] at hf
            refine ga_al0 C eX5_beginLaid_40 ?_
            refine ga_getR C hK eX5_beginLaid_41 lRX5_19 rfl rfl ?_
            refine ga_il1 C eX5_beginLaid_44 ?_
            obtain ⟨r11, c11, hf⟩ := gb_some hf
            have k11 := gk_get (e := e) (cp := cp) c11
            refine ga_cV1 C hK eX5_beginLaid_45 nRX5_116 mJx4a65c_get_915e3 vJx4a65c_get_915e3 rfl (t_get hg c11) (by decide) (Nat.le_of_ble_eq_true rfl) ?_
            refine ga_cast (q := gaT_4) C hK eX5_beginLaid_48 clRX5_101 rfl k11 ?_
            refine ga_as2 C eX5_beginLaid_51 ?_
            refine ga_al2 C eX5_beginLaid_52 ?_
            refine ga_push C eX5_beginLaid_53 ?_
            obtain ⟨M12, q12, hf⟩ := gB_some hf
            refine ga_putI C hK eX5_beginLaid_54 lRX5_120 (by intro q hq; cases hq; exact ⟨rfl, rfl⟩) k11 rfl q12 ?_
            refine ga_al2 C eX5_beginLaid_57 ?_
            refine ga_al0 C eX5_beginLaid_58 ?_
            refine ga_getR C hK eX5_beginLaid_59 lRX5_34 rfl rfl ?_
            refine ga_getR C hK eX5_beginLaid_62 lRX5_214 rfl rfl ?_
            refine ga_il1 C eX5_beginLaid_65 ?_
            refine ga_iald C hK eX5_beginLaid_66 (gk_pa0 (Or.inr rfl)) (by decide) g8 ?_
            obtain ⟨M13, q13, hf⟩ := gB_some hf
            refine ga_putI C hK eX5_beginLaid_67 lRX5_266 (by intro q hq; cases hq; exact ⟨rfl, rfl⟩) k11 rfl q13 ?_
            refine ga_al2 C eX5_beginLaid_70 ?_
            refine ga_al0 C eX5_beginLaid_71 ?_
            refine ga_getI C hK eX5_beginLaid_72 lRX5_58 rfl rfl ?_
            obtain ⟨M14, q14, hf⟩ := gB_some hf
            refine ga_putI C hK eX5_beginLaid_75 lRX5_267 (by intro q hq; cases hq; exact ⟨rfl, rfl⟩) k11 rfl q14 ?_
            refine ga_al0 C eX5_beginLaid_78 ?_
            refine ga_getR C hK eX5_beginLaid_79 lRX5_23 rfl rfl ?_
            refine ga_al2 C eX5_beginLaid_82 ?_
            refine ga_getI C hK eX5_beginLaid_83 lRX5_227 k11 rfl ?_
            refine ga_dup2 C eX5_beginLaid_86 ?_
            obtain ⟨g15, hf⟩ := gg_some hf
            refine ga_iald C hK eX5_beginLaid_87 rfl (by decide) g15 ?_
            refine ga_al0 C eX5_beginLaid_88 ?_
            refine ga_getI C hK eX5_beginLaid_89 lRX5_58 rfl rfl ?_
            refine ga_al2 C eX5_beginLaid_92 ?_
            refine ga_getI C hK eX5_beginLaid_93 lRX5_165 k11 rfl ?_
            refine ga_isub C eX5_beginLaid_96 ?_
            refine ga_iadd C eX5_beginLaid_97 ?_
            obtain ⟨M16, q16, hf⟩ := gB_some hf
            refine ga_iast C hK eX5_beginLaid_98 rfl (by decide) g15 q16 ?_
            refine ga_al0 C eX5_beginLaid_99 ?_
            refine ga_getR C hK eX5_beginLaid_100 lRX5_10 rfl rfl ?_
            refine ga_al2 C eX5_beginLaid_103 ?_
            refine ga_getI C hK eX5_beginLaid_104 lRX5_266 k11 rfl ?_
            refine ga_al2 C eX5_beginLaid_107 ?_
            refine ga_getI C hK eX5_beginLaid_108 lRX5_267 k11 rfl ?_
            refine ga_al2 C eX5_beginLaid_111 ?_
            refine ga_getI C hK eX5_beginLaid_112 lRX5_185 k11 rfl ?_
            obtain ⟨M17, c17, hf⟩ := gb_some hf
            refine ga_cV3 C hK eX5_beginLaid_115 nRX5_243 mX2_take vX2_take rfl (t_X2_take hg c17) (by decide) (Nat.le_of_ble_eq_true rfl) ?_
            cases hf
            exact ga_forget [true, true, false] rfl kx7
          · rw [if_neg hc] at hf
            cases hf
            exact ga_forget [true, true, false] rfl kx7
      · rw [if_neg hc] at hf
        cases hf
        exact ga_forget [false, false, false] rfl kx
  obtain ⟨M1, hl1, hf⟩ := gb_some hf
  refine ga_forget [true, true, false] rfl ?_
  refine L2 G _ _ _ hl1 ?_
  exact ga_vretW C T eX5_beginLaid_124 hf

set_option maxRecDepth 20000 in
set_option maxHeartbeats 4000000 in
theorem t_X5_loseLate {n e cp G : Nat} (hg : gh n e cp) {M Mz : gaM}  (hf : f_X5_loseLate G n M = some Mz) : ga_Met yX5_loseLate cX5_loseLate 3 none 4 (gk n e cp) M [.inr (some 0)] none Mz := by
  refine ga_met (by decide) rfl (Nat.le_of_ble_eq_true rfl) ?_
  intro X C hK T
  show ga_W X M 0 [some (.inr (some 0)), none, none] []
  unfold f_X5_loseLate at hf
  refine ga_push C eX5_loseLate_0 ?_
  refine ga_is1 C eX5_loseLate_1 ?_
  have L2 : ∀ (F : Nat) (M : gaM) (v1 : Int) (M1 : gaM), l_X5_loseLate_2 G n F M v1 = some M1 → ga_W X M1 61 [none, none, none] [] → ga_W X M 2 [some (.inr (some 0)), some (.inl v1), none] [] := by
    intro F
    induction F with
    | zero =>
      intro M v1 M1 hf kx
      cases hf
    | succ F ih =>
      intro M v1 M1 hf kx
      rw [l_X5_loseLate_2] at hf
      refine ga_il1 C eX5_loseLate_2 ?_
      refine ga_al0 C eX5_loseLate_3 ?_
      refine ga_getR C hK eX5_loseLate_4 lRX5_19 rfl rfl ?_
      obtain ⟨r2, c2, hf⟩ := gb_some hf
      refine ga_cV0 C hK eX5_loseLate_7 nRX5_109 mJx4a65c_size_8abf5 vJx4a65c_size_8abf5 rfl (t_Jx4a65c_size_8abf5 hg c2) (by decide) (Nat.le_of_ble_eq_true rfl) ?_
      obtain ⟨g3, hf⟩ := gg_some hf
      obtain ⟨g4, hf⟩ := gg_some hf
      refine ga_icmp_ge C eX5_loseLate_10 g3 g4 (fun hc => ?_) (fun hc => ?_)
      · rw [if_pos hc] at hf
        refine ga_al0 C eX5_loseLate_13 ?_
        refine ga_getR C hK eX5_loseLate_14 lRX5_19 rfl rfl ?_
        refine ga_il1 C eX5_loseLate_17 ?_
        obtain ⟨r5, c5, hf⟩ := gb_some hf
        have k5 := gk_get (e := e) (cp := cp) c5
        refine ga_cV1 C hK eX5_loseLate_18 nRX5_116 mJx4a65c_get_915e3 vJx4a65c_get_915e3 rfl (t_get hg c5) (by decide) (Nat.le_of_ble_eq_true rfl) ?_
        refine ga_cast (q := gaT_4) C hK eX5_loseLate_21 clRX5_101 rfl k5 ?_
        refine ga_as2 C eX5_loseLate_24 ?_
        refine ga_al2 C eX5_loseLate_25 ?_
        refine ga_getI C hK eX5_loseLate_26 lRX5_120 k5 rfl ?_
        obtain ⟨g6, hf⟩ := gg_some hf
        obtain ⟨M7, hx, hf⟩ := gb_some hf
        have kx7 : ga_W X M7 55 [some (.inr (some 0)), some (.inl v1), none] [] := by
          refine ga_ii1 C eX5_loseLate_55 ?_
          refine ga_goto C eX5_loseLate_58 ?_
          refine ga_forget [true, true, false] rfl ?_
          exact ih _ _ _ hf kx
        clear hf
        have hf := hx
        refine ga_if_ne C eX5_loseLate_29 g6 (fun hc => ?_) (fun hc => ?_)
        · rw [if_pos hc] at hf
          refine ga_al0 C eX5_loseLate_32 ?_
          refine ga_getI C hK eX5_loseLate_33 lRX5_58 rfl rfl ?_
          refine ga_push C eX5_loseLate_36 ?_
          refine ga_iadd C eX5_loseLate_37 ?_
          refine ga_al2 C eX5_loseLate_38 ?_
          refine ga_getI C hK eX5_loseLate_39 lRX5_185 k5 rfl ?_
          refine ga_iadd C eX5_loseLate_42 ?_
          refine ga_al2 C eX5_loseLate_43 ?_
          refine ga_getI C hK eX5_loseLate_44 lRX5_182 k5 rfl ?_
          obtain ⟨g8, hf⟩ := gg_some hf
          obtain ⟨g9, hf⟩ := gg_some hf
          refine ga_icmp_le C eX5_loseLate_47 g8 g9 (fun hc => ?_) (fun hc => ?_)
          · rw [if_pos hc] at hf
            refine ga_al2 C eX5_loseLate_50 ?_
            refine ga_push C eX5_loseLate_51 ?_
            obtain ⟨M10, q10, hf⟩ := gB_some hf
            refine ga_putI C hK eX5_loseLate_52 lRX5_120 (by intro q hq; cases hq; exact ⟨rfl, rfl⟩) k5 rfl q10 ?_
            cases hf
            exact ga_forget [true, true, false] rfl kx7
          · rw [if_neg hc] at hf
            cases hf
            exact ga_forget [true, true, false] rfl kx7
        · rw [if_neg hc] at hf
          cases hf
          exact ga_forget [true, true, false] rfl kx7
      · rw [if_neg hc] at hf
        cases hf
        exact ga_forget [false, false, false] rfl kx
  obtain ⟨M1, hl1, hf⟩ := gb_some hf
  refine ga_forget [true, true, false] rfl ?_
  refine L2 G _ _ _ hl1 ?_
  exact ga_vretW C T eX5_loseLate_61 hf

set_option maxRecDepth 20000 in
set_option maxHeartbeats 4000000 in
theorem t_X5_doHour {n e cp G : Nat} (hg : gh n e cp) {M Mz : gaM} {w1 : Nat} {rz : Int} (hw1 : gk n e cp w1 = some (.inr (.inl (4, gr_X4)))) (hf : f_X5_doHour G n M w1 = some (rz, Mz)) : ga_Met yX5_doHour cX5_doHour 2 (some .int) 1 (gk n e cp) M [.inr (some 0), .inr (some w1)] (some (.inl rz)) Mz := by
  refine ga_met (by decide) rfl (Nat.le_of_ble_eq_true rfl) ?_
  intro X C hK T
  show ga_W X M 0 [some (.inr (some 0)), some (.inr (some w1))] []
  unfold f_X5_doHour at hf
  refine ga_al1 C eX5_doHour_0 ?_
  refine ga_dup C eX5_doHour_1 ?_
  refine ga_getI C hK eX5_doHour_2 lRX5_159 hw1 rfl ?_
  refine ga_al0 C eX5_doHour_5 ?_
  refine ga_getR C hK eX5_doHour_6 lRX5_10 rfl rfl ?_
  refine ga_getR C hK eX5_doHour_9 lRX5_94 rfl rfl ?_
  refine ga_al1 C eX5_doHour_12 ?_
  refine ga_getI C hK eX5_doHour_13 lRX5_266 hw1 rfl ?_
  obtain ⟨g1, hf⟩ := gg_some hf
  refine ga_aald C hK eX5_doHour_16 rfl (Or.inl rfl) (by decide) g1 ?_
  refine ga_al0 C eX5_doHour_17 ?_
  refine ga_getI C hK eX5_doHour_18 lRX5_58 rfl rfl ?_
  obtain ⟨g2, hf⟩ := gg_some hf
  refine ga_iald C hK eX5_doHour_21 (gk_r20 g1) (by decide) g2 ?_
  refine ga_iadd C eX5_doHour_22 ?_
  obtain ⟨M3, q3, hf⟩ := gB_some hf
  refine ga_putI C hK eX5_doHour_23 lRX5_159 (by intro q hq; cases hq; exact ⟨rfl, rfl⟩) hw1 rfl q3 ?_
  refine ga_al1 C eX5_doHour_26 ?_
  refine ga_getI C hK eX5_doHour_27 lRX5_267 hw1 rfl ?_
  refine ga_al0 C eX5_doHour_30 ?_
  refine ga_getI C hK eX5_doHour_31 lRX5_58 rfl rfl ?_
  obtain ⟨g4, hf⟩ := gg_some hf
  obtain ⟨g5, hf⟩ := gg_some hf
  obtain ⟨M6, hx, hf⟩ := gb_some hf
  have kx6 : ga_W X M6 58 [some (.inr (some 0)), some (.inr (some w1))] [] := by
    refine ga_al1 C eX5_doHour_58 ?_
    refine ga_getI C hK eX5_doHour_59 lRX5_267 hw1 rfl ?_
    refine ga_al1 C eX5_doHour_62 ?_
    refine ga_getI C hK eX5_doHour_63 lRX5_185 hw1 rfl ?_
    refine ga_iadd C eX5_doHour_66 ?_
    refine ga_push C eX5_doHour_67 ?_
    refine ga_isub C eX5_doHour_68 ?_
    refine ga_al0 C eX5_doHour_69 ?_
    refine ga_getI C hK eX5_doHour_70 lRX5_58 rfl rfl ?_
    obtain ⟨g9, hf⟩ := gg_some hf
    obtain ⟨g10, hf⟩ := gg_some hf
    refine ga_icmp_le C eX5_doHour_73 g9 g10 (fun hc => ?_) (fun hc => ?_)
    · rw [if_pos hc] at hf
      refine ga_push C eX5_doHour_76 ?_
      exact ga_iretW C T eX5_doHour_77 hf
    · rw [if_neg hc] at hf
      refine ga_al1 C eX5_doHour_78 ?_
      refine ga_push C eX5_doHour_79 ?_
      obtain ⟨M11, q11, hf⟩ := gB_some hf
      refine ga_putI C hK eX5_doHour_80 lRX5_120 (by intro q hq; cases hq; exact ⟨rfl, rfl⟩) hw1 rfl q11 ?_
      refine ga_push C eX5_doHour_83 ?_
      exact ga_iretW C T eX5_doHour_84 hf
  clear hf
  have hf := hx
  refine ga_icmp_ne C eX5_doHour_34 g4 g5 (fun hc => ?_) (fun hc => ?_)
  · rw [if_pos hc] at hf
    refine ga_al1 C eX5_doHour_37 ?_
    refine ga_dup C eX5_doHour_38 ?_
    refine ga_getI C hK eX5_doHour_39 lRX5_159 hw1 rfl ?_
    refine ga_al0 C eX5_doHour_42 ?_
    refine ga_getR C hK eX5_doHour_43 lRX5_10 rfl rfl ?_
    refine ga_al1 C eX5_doHour_46 ?_
    refine ga_al1 C eX5_doHour_47 ?_
    refine ga_getI C hK eX5_doHour_48 lRX5_266 hw1 rfl ?_
    obtain ⟨r7, c7, hf⟩ := gb_some hf
    refine ga_cV2 C hK eX5_doHour_51 nRX5_268 mX2_carriage vX2_carriage rfl (t_X2_carriage hg hw1 c7) (by decide) (Nat.le_of_ble_eq_true rfl) ?_
    refine ga_iadd C eX5_doHour_54 ?_
    obtain ⟨M8, q8, hf⟩ := gB_some hf
    refine ga_putI C hK eX5_doHour_55 lRX5_159 (by intro q hq; cases hq; exact ⟨rfl, rfl⟩) hw1 rfl q8 ?_
    cases hf
    exact ga_forget [true, true] rfl kx6
  · rw [if_neg hc] at hf
    cases hf
    exact ga_forget [true, true] rfl kx6

set_option maxRecDepth 20000 in
set_option maxHeartbeats 4000000 in
theorem t_X5_passHour {n e cp G : Nat} (hg : gh n e cp) {M Mz : gaM} {rz : Int}  (hf : f_X5_passHour G n M = some (rz, Mz)) : ga_Met yX5_passHour cX5_passHour 3 (some .int) 7 (gk n e cp) M [.inr (some 0)] (some (.inl rz)) Mz := by
  refine ga_met (by decide) rfl (Nat.le_of_ble_eq_true rfl) ?_
  intro X C hK T
  show ga_W X M 0 [some (.inr (some 0)), none, none] []
  unfold f_X5_passHour at hf
  refine ga_al0 C eX5_passHour_0 ?_
  refine ga_al0 C eX5_passHour_1 ?_
  refine ga_getR C hK eX5_passHour_2 lRX5_34 rfl rfl ?_
  obtain ⟨M1, c1, hf⟩ := gb_some hf
  refine ga_cV1 C hK eX5_passHour_5 nRX5_129 mX5_makePlan vX5_makePlan rfl (t_X5_makePlan hg (Or.inr rfl) c1) (by decide) (Nat.le_of_ble_eq_true rfl) ?_
  refine ga_al0 C eX5_passHour_8 ?_
  obtain ⟨M2, c2, hf⟩ := gb_some hf
  refine ga_cV0 C hK eX5_passHour_9 nRX5_257 mX5_beginLaid vX5_beginLaid rfl (t_X5_beginLaid hg c2) (by decide) (Nat.le_of_ble_eq_true rfl) ?_
  refine ga_al0 C eX5_passHour_12 ?_
  obtain ⟨M3, c3, hf⟩ := gb_some hf
  refine ga_cV0 C hK eX5_passHour_13 nRX5_260 mX5_loseLate vX5_loseLate rfl (t_X5_loseLate hg c3) (by decide) (Nat.le_of_ble_eq_true rfl) ?_
  refine ga_push C eX5_passHour_16 ?_
  refine ga_is1 C eX5_passHour_17 ?_
  refine ga_push C eX5_passHour_18 ?_
  refine ga_is2 C eX5_passHour_19 ?_
  have L20 : ∀ (F : Nat) (M : gaM) (v1 : Int) (v2 : Int) (M4 : gaM) (x1_4 : Int), l_X5_passHour_20 G n F M v1 v2 = some (M4, x1_4) → ga_W X M4 73 [some (.inr (some 0)), some (.inl x1_4), none] [] → ga_W X M 20 [some (.inr (some 0)), some (.inl v1), some (.inl v2)] [] := by
    intro F
    induction F with
    | zero =>
      intro M v1 v2 M4 x1_4 hf kx
      cases hf
    | succ F ih =>
      intro M v1 v2 M4 x1_4 hf kx
      rw [l_X5_passHour_20] at hf
      refine ga_il2 C eX5_passHour_20 ?_
      refine ga_al0 C eX5_passHour_21 ?_
      refine ga_getR C hK eX5_passHour_22 lRX5_19 rfl rfl ?_
      obtain ⟨r5, c5, hf⟩ := gb_some hf
      refine ga_cV0 C hK eX5_passHour_25 nRX5_109 mJx4a65c_size_8abf5 vJx4a65c_size_8abf5 rfl (t_Jx4a65c_size_8abf5 hg c5) (by decide) (Nat.le_of_ble_eq_true rfl) ?_
      obtain ⟨g6, hf⟩ := gg_some hf
      obtain ⟨g7, hf⟩ := gg_some hf
      refine ga_icmp_ge C eX5_passHour_28 g6 g7 (fun hc => ?_) (fun hc => ?_)
      · rw [if_pos hc] at hf
        refine ga_al0 C eX5_passHour_31 ?_
        refine ga_getR C hK eX5_passHour_32 lRX5_19 rfl rfl ?_
        refine ga_il2 C eX5_passHour_35 ?_
        obtain ⟨r8, c8, hf⟩ := gb_some hf
        have k8 := gk_get (e := e) (cp := cp) c8
        refine ga_cV1 C hK eX5_passHour_36 nRX5_116 mJx4a65c_get_915e3 vJx4a65c_get_915e3 rfl (t_get hg c8) (by decide) (Nat.le_of_ble_eq_true rfl) ?_
        refine ga_cast (q := gaT_4) C hK eX5_passHour_39 clRX5_101 rfl k8 ?_
        refine ga_getI C hK eX5_passHour_42 lRX5_120 k8 rfl ?_
        refine ga_push C eX5_passHour_45 ?_
        obtain ⟨g9, hf⟩ := gg_some hf
        obtain ⟨M10, x1_10, hx, hf⟩ := gb2_some hf
        have kx10 : ga_W X M10 67 [some (.inr (some 0)), some (.inl x1_10), some (.inl v2)] [] := by
          refine ga_ii2 C eX5_passHour_67 ?_
          refine ga_goto C eX5_passHour_70 ?_
          refine ga_forget [true, true, true] rfl ?_
          exact ih _ _ _ _ _ hf kx
        clear hf
        have hf := hx
        refine ga_icmp_ne C eX5_passHour_46 g9 (by decide) (fun hc => ?_) (fun hc => ?_)
        · rw [if_pos hc] at hf
          refine ga_il1 C eX5_passHour_49 ?_
          refine ga_al0 C eX5_passHour_50 ?_
          refine ga_al0 C eX5_passHour_51 ?_
          refine ga_getR C hK eX5_passHour_52 lRX5_19 rfl rfl ?_
          refine ga_il2 C eX5_passHour_55 ?_
          obtain ⟨r11, c11, hf⟩ := gb_some hf
          have k11 := gk_get (e := e) (cp := cp) c11
          refine ga_cV1 C hK eX5_passHour_56 nRX5_116 mJx4a65c_get_915e3 vJx4a65c_get_915e3 rfl (t_get hg c11) (by decide) (Nat.le_of_ble_eq_true rfl) ?_
          refine ga_cast (q := gaT_4) C hK eX5_passHour_59 clRX5_101 rfl k11 ?_
          obtain ⟨r12, M12, c12, hf⟩ := gb2_some hf
          refine ga_cV1 C hK eX5_passHour_62 nRX5_263 mX5_doHour vX5_doHour rfl (t_X5_doHour hg k11 c12) (by decide) (Nat.le_of_ble_eq_true rfl) ?_
          refine ga_iadd C eX5_passHour_65 ?_
          refine ga_is1 C eX5_passHour_66 ?_
          cases hf
          exact ga_forget [true, true, true] rfl kx10
        · rw [if_neg hc] at hf
          cases hf
          exact ga_forget [true, true, true] rfl kx10
      · rw [if_neg hc] at hf
        cases hf
        exact ga_forget [true, true, false] rfl kx
  obtain ⟨M4, x1_4, hl4, hf⟩ := gb2_some hf
  refine ga_forget [true, true, true] rfl ?_
  refine L20 G _ _ _ _ _ hl4 ?_
  refine ga_al0 C eX5_passHour_73 ?_
  refine ga_dup C eX5_passHour_74 ?_
  refine ga_getI C hK eX5_passHour_75 lRX5_58 rfl rfl ?_
  refine ga_push C eX5_passHour_78 ?_
  refine ga_iadd C eX5_passHour_79 ?_
  obtain ⟨M13, q13, hf⟩ := gB_some hf
  refine ga_putI C hK eX5_passHour_80 lRX5_58 (by intro q hq; cases hq; exact ⟨rfl, rfl⟩) rfl rfl q13 ?_
  refine ga_il1 C eX5_passHour_83 ?_
  exact ga_iretW C T eX5_passHour_84 hf

set_option maxRecDepth 20000 in
set_option maxHeartbeats 4000000 in
theorem t_X5_pass {n e cp G : Nat} (hg : gh n e cp) {M Mz : gaM} {v1 : Int} {rz : Int}  (hf : f_X5_pass G n M v1 = some (rz, Mz)) : ga_Met yX5_pass cX5_pass 4 (some .int) 8 (gk n e cp) M [.inr (some 0), .inl v1] (some (.inl rz)) Mz := by
  refine ga_met (by decide) rfl (Nat.le_of_ble_eq_true rfl) ?_
  intro X C hK T
  show ga_W X M 0 [some (.inr (some 0)), some (.inl v1), none, none] []
  unfold f_X5_pass at hf
  refine ga_al0 C eX5_pass_0 ?_
  refine ga_al0 C eX5_pass_1 ?_
  refine ga_il1 C eX5_pass_2 ?_
  obtain ⟨r1, c1, hf⟩ := gb_some hf
  refine ga_cV1 C hK eX5_pass_3 nRX5_150 mX5_troubleOfPass vX5_troubleOfPass rfl (t_X5_troubleOfPass hg c1) (by decide) (Nat.le_of_ble_eq_true rfl) ?_
  obtain ⟨M2, q2, hf⟩ := gB_some hf
  refine ga_putI C hK eX5_pass_6 lRX5_61 (by intro q hq; cases hq; exact ⟨rfl, rfl⟩) rfl rfl q2 ?_
  refine ga_al0 C eX5_pass_9 ?_
  refine ga_getI C hK eX5_pass_10 lRX5_61 rfl rfl ?_
  obtain ⟨g3, hf⟩ := gg_some hf
  refine ga_if_eq C eX5_pass_13 g3 (fun hc => ?_) (fun hc => ?_)
  · rw [if_pos hc] at hf
    refine ga_push C eX5_pass_18 ?_
    refine ga_is2 C eX5_pass_19 ?_
    refine ga_push C eX5_pass_20 ?_
    refine ga_is3 C eX5_pass_21 ?_
    have L22 : ∀ (F : Nat) (M : gaM) (v1 : Int) (v2 : Int) (v3 : Int) (M4 : gaM) (x2_4 : Int), l_X5_pass_22 G n F M v1 v2 v3 = some (M4, x2_4) → ga_W X M4 40 [none, none, some (.inl x2_4), none] [] → ga_W X M 22 [some (.inr (some 0)), some (.inl v1), some (.inl v2), some (.inl v3)] [] := by
      intro F
      induction F with
      | zero =>
        intro M v1 v2 v3 M4 x2_4 hf kx
        cases hf
      | succ F ih =>
        intro M v1 v2 v3 M4 x2_4 hf kx
        rw [l_X5_pass_22] at hf
        refine ga_il3 C eX5_pass_22 ?_
        refine ga_il1 C eX5_pass_23 ?_
        obtain ⟨g5, hf⟩ := gg_some hf
        obtain ⟨g6, hf⟩ := gg_some hf
        refine ga_icmp_ge C eX5_pass_24 g5 g6 (fun hc => ?_) (fun hc => ?_)
        · rw [if_pos hc] at hf
          refine ga_il2 C eX5_pass_27 ?_
          refine ga_al0 C eX5_pass_28 ?_
          obtain ⟨r7, M7, c7, hf⟩ := gb2_some hf
          refine ga_cV0 C hK eX5_pass_29 nRX5_153 mX5_passHour vX5_passHour rfl (t_X5_passHour hg c7) (by decide) (Nat.le_of_ble_eq_true rfl) ?_
          refine ga_iadd C eX5_pass_32 ?_
          refine ga_is2 C eX5_pass_33 ?_
          refine ga_ii3 C eX5_pass_34 ?_
          refine ga_goto C eX5_pass_37 ?_
          refine ga_forget [true, true, true, true] rfl ?_
          exact ih _ _ _ _ _ _ hf kx
        · rw [if_neg hc] at hf
          cases hf
          exact ga_forget [false, false, true, false] rfl kx
    obtain ⟨M4, x2_4, hl4, hf⟩ := gb2_some hf
    refine ga_forget [true, true, true, true] rfl ?_
    refine L22 G _ _ _ _ _ _ hl4 ?_
    refine ga_il2 C eX5_pass_40 ?_
    exact ga_iretW C T eX5_pass_41 hf
  · rw [if_neg hc] at hf
    refine ga_push C eX5_pass_16 ?_
    exact ga_iretW C T eX5_pass_17 hf

set_option maxRecDepth 20000 in
set_option maxHeartbeats 4000000 in
theorem t_X5_delay {n e cp G : Nat} (hg : gh n e cp) {M : gaM} {v1 : Int} {rz : Int}  (hf : f_X5_delay G n M v1 = some rz) : ga_Met yX5_delay cX5_delay 2 (some .int) 1 (gk n e cp) M [.inr (some 0), .inl v1] (some (.inl rz)) M := by
  refine ga_met (by decide) rfl (Nat.le_of_ble_eq_true rfl) ?_
  intro X C hK T
  show ga_W X M 0 [some (.inr (some 0)), some (.inl v1)] []
  unfold f_X5_delay at hf
  refine ga_il1 C eX5_delay_0 ?_
  refine ga_push C eX5_delay_1 ?_
  refine ga_push C eX5_delay_2 ?_
  obtain ⟨r1, c1, hf⟩ := gb_some hf
  refine ga_cS3 C hK eX5_delay_3 nRX5_71 mX5_within sX5_within (t_X5_within hg c1) (by decide) (Nat.le_of_ble_eq_true rfl) ?_
  obtain ⟨g2, hf⟩ := gg_some hf
  refine ga_if_eq C eX5_delay_6 g2 (fun hc => ?_) (fun hc => ?_)
  · rw [if_pos hc] at hf
    refine ga_push C eX5_delay_18 ?_
    exact ga_iret0 C T eX5_delay_19 hf
  · rw [if_neg hc] at hf
    refine ga_al0 C eX5_delay_9 ?_
    refine ga_getR C hK eX5_delay_10 lRX5_23 rfl rfl ?_
    refine ga_il1 C eX5_delay_13 ?_
    obtain ⟨g3, hf⟩ := gg_some hf
    refine ga_iald C hK eX5_delay_14 rfl (by decide) g3 ?_
    refine ga_goto C eX5_delay_15 ?_
    exact ga_iret0 C T eX5_delay_19 hf


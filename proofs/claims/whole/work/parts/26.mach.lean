set_option maxRecDepth 20000 in
set_option maxHeartbeats 4000000 in
theorem t_X6_delayOf {n e cp G : Nat} (hg : gh n e cp) {M : gaM} {v1 : Int} {rz : Int}  (hf : f_X6_delayOf G n M v1 = some rz) : ga_Met yX6_delayOf cX6_delayOf 4 (some .int) 0 (gk n e cp) M [.inr (some 100), .inl v1] (some (.inl rz)) M := by
  refine ga_met (by decide) rfl (Nat.le_of_ble_eq_true rfl) ?_
  intro X C hK T
  show ga_W X M 0 [some (.inr (some 100)), some (.inl v1), none, none] []
  unfold f_X6_delayOf at hf
  refine ga_push C eX6_delayOf_0 ?_
  refine ga_is2 C eX6_delayOf_1 ?_
  refine ga_push C eX6_delayOf_2 ?_
  refine ga_is3 C eX6_delayOf_3 ?_
  have L4 : ∀ (F : Nat) (v1 : Int) (v2 : Int) (v3 : Int) (x2_1 : Int), l_X6_delayOf_4 G n M F v1 v2 v3 = some x2_1 → ga_W X M 68 [none, none, some (.inl x2_1), none] [] → ga_W X M 4 [some (.inr (some 100)), some (.inl v1), some (.inl v2), some (.inl v3)] [] := by
    intro F
    induction F with
    | zero =>
      intro v1 v2 v3 x2_1 hf kx
      cases hf
    | succ F ih =>
      intro v1 v2 v3 x2_1 hf kx
      rw [l_X6_delayOf_4] at hf
      refine ga_il3 C eX6_delayOf_4 ?_
      refine ga_al0 C eX6_delayOf_5 ?_
      refine ga_getI C hK eX6_delayOf_6 lRX6_105 rfl rfl ?_
      obtain ⟨g2, hf⟩ := gg_some hf
      obtain ⟨g3, hf⟩ := gg_some hf
      refine ga_icmp_ge C eX6_delayOf_9 g2 g3 (fun hc => ?_) (fun hc => ?_)
      · rw [if_pos hc] at hf
        refine ga_il2 C eX6_delayOf_12 ?_
        refine ga_al0 C eX6_delayOf_13 ?_
        refine ga_getR C hK eX6_delayOf_14 lRX6_29 rfl rfl ?_
        refine ga_il3 C eX6_delayOf_17 ?_
        obtain ⟨g4, hf⟩ := gg_some hf
        refine ga_iald C hK eX6_delayOf_18 rfl (by decide) g4 ?_
        refine ga_il1 C eX6_delayOf_19 ?_
        obtain ⟨g5, hf⟩ := gg_some hf
        obtain ⟨g6, hf⟩ := gg_some hf
        obtain ⟨s0_7, hx, hf⟩ := gb_some hf
        have kx7 : ga_W X M 60 [some (.inr (some 100)), some (.inl v1), none, some (.inl v3)] [.inl s0_7, .inl v2] := by
          refine ga_iadd C eX6_delayOf_60 ?_
          refine ga_is2 C eX6_delayOf_61 ?_
          refine ga_ii3 C eX6_delayOf_62 ?_
          refine ga_goto C eX6_delayOf_65 ?_
          refine ga_forget [true, true, true, true] rfl ?_
          exact ih _ _ _ _ hf kx
        clear hf
        have hf := hx
        refine ga_icmp_ne C eX6_delayOf_20 g5 g6 (fun hc => ?_) (fun hc => ?_)
        · rw [if_pos hc] at hf
          refine ga_al0 C eX6_delayOf_23 ?_
          refine ga_getR C hK eX6_delayOf_24 lRX6_47 rfl rfl ?_
          refine ga_il3 C eX6_delayOf_27 ?_
          refine ga_iald C hK eX6_delayOf_28 rfl (by decide) g4 ?_
          refine ga_push C eX6_delayOf_29 ?_
          obtain ⟨g8, hf⟩ := gg_some hf
          refine ga_icmp_eq C eX6_delayOf_30 g8 (by decide) (fun hc => ?_) (fun hc => ?_)
          · rw [if_pos hc] at hf
            refine ga_al0 C eX6_delayOf_43 ?_
            refine ga_getR C hK eX6_delayOf_44 lRX6_53 rfl rfl ?_
            refine ga_il3 C eX6_delayOf_47 ?_
            refine ga_iald C hK eX6_delayOf_48 rfl (by decide) g4 ?_
            refine ga_al0 C eX6_delayOf_49 ?_
            refine ga_getR C hK eX6_delayOf_50 lRX6_38 rfl rfl ?_
            refine ga_il3 C eX6_delayOf_53 ?_
            refine ga_iald C hK eX6_delayOf_54 rfl (by decide) g4 ?_
            refine ga_isub C eX6_delayOf_55 ?_
            refine ga_goto C eX6_delayOf_56 ?_
            cases hf
            exact ga_forget [true, true, false, true] rfl kx7
          · rw [if_neg hc] at hf
            refine ga_al0 C eX6_delayOf_33 ?_
            refine ga_getR C hK eX6_delayOf_34 lRX6_47 rfl rfl ?_
            refine ga_il3 C eX6_delayOf_37 ?_
            refine ga_iald C hK eX6_delayOf_38 rfl (by decide) g4 ?_
            refine ga_push C eX6_delayOf_39 ?_
            refine ga_icmp_ne C eX6_delayOf_40 g8 (by decide) (fun hc => ?_) (fun hc => ?_)
            · rw [if_pos hc] at hf
              refine ga_al0 C eX6_delayOf_43 ?_
              refine ga_getR C hK eX6_delayOf_44 lRX6_53 rfl rfl ?_
              refine ga_il3 C eX6_delayOf_47 ?_
              refine ga_iald C hK eX6_delayOf_48 rfl (by decide) g4 ?_
              refine ga_al0 C eX6_delayOf_49 ?_
              refine ga_getR C hK eX6_delayOf_50 lRX6_38 rfl rfl ?_
              refine ga_il3 C eX6_delayOf_53 ?_
              refine ga_iald C hK eX6_delayOf_54 rfl (by decide) g4 ?_
              refine ga_isub C eX6_delayOf_55 ?_
              refine ga_goto C eX6_delayOf_56 ?_
              cases hf
              exact ga_forget [true, true, false, true] rfl kx7
            · rw [if_neg hc] at hf
              refine ga_push C eX6_delayOf_59 ?_
              cases hf
              exact ga_forget [true, true, false, true] rfl kx7
        · rw [if_neg hc] at hf
          refine ga_push C eX6_delayOf_59 ?_
          cases hf
          exact ga_forget [true, true, false, true] rfl kx7
      · rw [if_neg hc] at hf
        cases hf
        exact ga_forget [false, false, true, false] rfl kx
  obtain ⟨x2_1, hl1, hf⟩ := gb_some hf
  refine ga_forget [true, true, true, true] rfl ?_
  refine L4 G _ _ _ _ hl1 ?_
  refine ga_il2 C eX6_delayOf_68 ?_
  exact ga_iret0 C T eX6_delayOf_69 hf

set_option maxRecDepth 20000 in
set_option maxHeartbeats 4000000 in
theorem t_X6_isAhead {n e cp G : Nat} (hg : gh n e cp) {M : gaM} {v1 v2 : Int} {rz : Int}  (hf : f_X6_isAhead G n M v1 v2 = some rz) : ga_Met yX6_isAhead cX6_isAhead 5 (some .boolean) 0 (gk n e cp) M [.inr (some 100), .inl v1, .inl v2] (some (.inl rz)) M := by
  refine ga_met (by decide) rfl (Nat.le_of_ble_eq_true rfl) ?_
  intro X C hK T
  show ga_W X M 0 [some (.inr (some 100)), some (.inl v1), some (.inl v2), none, none] []
  unfold f_X6_isAhead at hf
  refine ga_al0 C eX6_isAhead_0 ?_
  refine ga_getR C hK eX6_isAhead_1 lRX6_83 rfl rfl ?_
  refine ga_al0 C eX6_isAhead_4 ?_
  refine ga_getR C hK eX6_isAhead_5 lRX6_29 rfl rfl ?_
  refine ga_il1 C eX6_isAhead_8 ?_
  obtain ⟨g1, hf⟩ := gg_some hf
  refine ga_iald C hK eX6_isAhead_9 rfl (by decide) g1 ?_
  obtain ⟨g2, hf⟩ := gg_some hf
  refine ga_zald C hK eX6_isAhead_10 rfl (by decide) g2 ?_
  refine ga_is3 C eX6_isAhead_11 ?_
  refine ga_al0 C eX6_isAhead_12 ?_
  refine ga_getR C hK eX6_isAhead_13 lRX6_83 rfl rfl ?_
  refine ga_al0 C eX6_isAhead_16 ?_
  refine ga_getR C hK eX6_isAhead_17 lRX6_29 rfl rfl ?_
  refine ga_il2 C eX6_isAhead_20 ?_
  obtain ⟨g3, hf⟩ := gg_some hf
  refine ga_iald C hK eX6_isAhead_21 rfl (by decide) g3 ?_
  obtain ⟨g4, hf⟩ := gg_some hf
  refine ga_zald C hK eX6_isAhead_22 rfl (by decide) g4 ?_
  refine ga_is4 C eX6_isAhead_23 ?_
  refine ga_il3 C eX6_isAhead_25 ?_
  refine ga_il4 C eX6_isAhead_26 ?_
  obtain ⟨g5, hf⟩ := gg_some hf
  obtain ⟨g6, hf⟩ := gg_some hf
  refine ga_icmp_eq C eX6_isAhead_28 g5 g6 (fun hc => ?_) (fun hc => ?_)
  · rw [if_pos hc] at hf
    refine ga_al0 C eX6_isAhead_33 ?_
    refine ga_getR C hK eX6_isAhead_34 lRX6_41 rfl rfl ?_
    refine ga_il1 C eX6_isAhead_37 ?_
    refine ga_iald C hK eX6_isAhead_38 rfl (by decide) g1 ?_
    refine ga_al0 C eX6_isAhead_39 ?_
    refine ga_getR C hK eX6_isAhead_40 lRX6_41 rfl rfl ?_
    refine ga_il2 C eX6_isAhead_43 ?_
    refine ga_iald C hK eX6_isAhead_44 rfl (by decide) g3 ?_
    obtain ⟨g7, hf⟩ := gg_some hf
    obtain ⟨g8, hf⟩ := gg_some hf
    refine ga_icmp_eq C eX6_isAhead_45 g7 g8 (fun hc => ?_) (fun hc => ?_)
    · rw [if_pos hc] at hf
      refine ga_il1 C eX6_isAhead_71 ?_
      refine ga_il2 C eX6_isAhead_72 ?_
      obtain ⟨g9, hf⟩ := gg_some hf
      obtain ⟨g10, hf⟩ := gg_some hf
      refine ga_icmp_ge C eX6_isAhead_73 g9 g10 (fun hc => ?_) (fun hc => ?_)
      · rw [if_pos hc] at hf
        refine ga_push C eX6_isAhead_76 ?_
        refine ga_goto C eX6_isAhead_77 ?_
        exact ga_zret0 C T eX6_isAhead_81 (by decide) hf
      · rw [if_neg hc] at hf
        refine ga_push C eX6_isAhead_80 ?_
        exact ga_zret0 C T eX6_isAhead_81 (by decide) hf
    · rw [if_neg hc] at hf
      refine ga_al0 C eX6_isAhead_48 ?_
      refine ga_getR C hK eX6_isAhead_49 lRX6_41 rfl rfl ?_
      refine ga_il1 C eX6_isAhead_52 ?_
      refine ga_iald C hK eX6_isAhead_53 rfl (by decide) g1 ?_
      refine ga_al0 C eX6_isAhead_54 ?_
      refine ga_getR C hK eX6_isAhead_55 lRX6_41 rfl rfl ?_
      refine ga_il2 C eX6_isAhead_58 ?_
      refine ga_iald C hK eX6_isAhead_59 rfl (by decide) g3 ?_
      refine ga_icmp_ge C eX6_isAhead_60 g7 g8 (fun hc => ?_) (fun hc => ?_)
      · rw [if_pos hc] at hf
        refine ga_push C eX6_isAhead_63 ?_
        refine ga_goto C eX6_isAhead_64 ?_
        exact ga_zret0 C T eX6_isAhead_81 (by decide) hf
      · rw [if_neg hc] at hf
        refine ga_push C eX6_isAhead_67 ?_
        refine ga_goto C eX6_isAhead_68 ?_
        exact ga_zret0 C T eX6_isAhead_81 (by decide) hf
  · rw [if_neg hc] at hf
    refine ga_il3 C eX6_isAhead_31 ?_
    obtain ⟨b11, hf⟩ := gg_some hf
    exact ga_zret0 C T eX6_isAhead_32 b11 hf

set_option maxRecDepth 20000 in
set_option maxHeartbeats 4000000 in
theorem t_X6_layOne {n e cp G : Nat} (hg : gh n e cp) {M Mz : gaM} {v1 : Int}  (hf : f_X6_layOne G n M v1 = some Mz) : ga_Met yX6_layOne cX6_layOne 6 none 1 (gk n e cp) M [.inr (some 100), .inl v1] none Mz := by
  refine ga_met (by decide) rfl (Nat.le_of_ble_eq_true rfl) ?_
  intro X C hK T
  show ga_W X M 0 [some (.inr (some 100)), some (.inl v1), none, none, none, none] []
  unfold f_X6_layOne at hf
  refine ga_al0 C eX6_layOne_0 ?_
  refine ga_getR C hK eX6_layOne_1 lRX6_83 rfl rfl ?_
  refine ga_al0 C eX6_layOne_4 ?_
  refine ga_getR C hK eX6_layOne_5 lRX6_29 rfl rfl ?_
  refine ga_il1 C eX6_layOne_8 ?_
  obtain ⟨g1, hf⟩ := gg_some hf
  refine ga_iald C hK eX6_layOne_9 rfl (by decide) g1 ?_
  obtain ⟨g2, hf⟩ := gg_some hf
  refine ga_zald C hK eX6_layOne_10 rfl (by decide) g2 ?_
  refine ga_is2 C eX6_layOne_11 ?_
  refine ga_al0 C eX6_layOne_12 ?_
  refine ga_getI C hK eX6_layOne_13 lRX6_130 rfl rfl ?_
  refine ga_al0 C eX6_layOne_16 ?_
  refine ga_getR C hK eX6_layOne_17 lRX6_38 rfl rfl ?_
  refine ga_il1 C eX6_layOne_20 ?_
  refine ga_iald C hK eX6_layOne_21 rfl (by decide) g1 ?_
  obtain ⟨g4, hf⟩ := gg_some hf
  obtain ⟨g5, hf⟩ := gg_some hf
  refine ga_max C eX6_layOne_22 nRX6_157 (by decide) g4 g5 (Nat.le_of_ble_eq_true rfl) ?_
  refine ga_is3 C eX6_layOne_25 ?_
  have L26 : ∀ (F : Nat) (M : gaM) (v1 : Int) (v2 : Int) (v3 : Int) (M6 : gaM), l_X6_layOne_26 G n F M v1 v2 v3 = some M6 → ga_W X M6 155 [some (.inr (some 100)), some (.inl v1), none, none, none, none] [] → ga_W X M 26 [some (.inr (some 100)), some (.inl v1), some (.inl v2), some (.inl v3), none, none] [] := by
    intro F
    induction F with
    | zero =>
      intro M v1 v2 v3 M6 hf kx
      cases hf
    | succ F ih =>
      intro M v1 v2 v3 M6 hf kx
      rw [l_X6_layOne_26] at hf
      refine ga_il3 C eX6_layOne_26 ?_
      refine ga_al0 C eX6_layOne_27 ?_
      refine ga_getR C hK eX6_layOne_28 lRX6_41 rfl rfl ?_
      refine ga_il1 C eX6_layOne_31 ?_
      obtain ⟨g7, hf⟩ := gg_some hf
      refine ga_iald C hK eX6_layOne_32 rfl (by decide) g7 ?_
      refine ga_al0 C eX6_layOne_33 ?_
      refine ga_getR C hK eX6_layOne_34 lRX6_35 rfl rfl ?_
      refine ga_il1 C eX6_layOne_37 ?_
      refine ga_iald C hK eX6_layOne_38 rfl (by decide) g7 ?_
      refine ga_isub C eX6_layOne_39 ?_
      obtain ⟨g8, hf⟩ := gg_some hf
      obtain ⟨g9, hf⟩ := gg_some hf
      refine ga_icmp_gt C eX6_layOne_40 g8 g9 (fun hc => ?_) (fun hc => ?_)
      · rw [if_pos hc] at hf
        refine ga_il2 C eX6_layOne_43 ?_
        obtain ⟨g10, hf⟩ := gg_some hf
        refine ga_if_eq C eX6_layOne_44 g10 (fun hc => ?_) (fun hc => ?_)
        · rw [if_pos hc] at hf
          refine ga_push C eX6_layOne_60 ?_
          refine ga_is4 C eX6_layOne_61 ?_
          have L63 : ∀ (F : Nat) (M : gaM) (v1 : Int) (v2 : Int) (v3 : Int) (v4 : Int) (M11 : gaM), l_X6_layOne_63 G n F M v1 v2 v3 v4 = some M11 → ga_W X M11 149 [some (.inr (some 100)), some (.inl v1), some (.inl v2), some (.inl v3), none, none] [] → ga_W X M 63 [some (.inr (some 100)), some (.inl v1), some (.inl v2), some (.inl v3), some (.inl v4), none] [] := by
            intro F
            induction F with
            | zero =>
              intro M v1 v2 v3 v4 M11 hf kx
              cases hf
            | succ F ih =>
              intro M v1 v2 v3 v4 M11 hf kx
              rw [l_X6_layOne_63] at hf
              refine ga_il4 C eX6_layOne_63 ?_
              refine ga_al0 C eX6_layOne_65 ?_
              refine ga_getI C hK eX6_layOne_66 lRX6_102 rfl rfl ?_
              obtain ⟨g12, hf⟩ := gg_some hf
              obtain ⟨g13, hf⟩ := gg_some hf
              refine ga_icmp_ge C eX6_layOne_69 g12 g13 (fun hc => ?_) (fun hc => ?_)
              · rw [if_pos hc] at hf
                refine ga_al0 C eX6_layOne_72 ?_
                refine ga_il1 C eX6_layOne_73 ?_
                refine ga_il4 C eX6_layOne_74 ?_
                refine ga_il3 C eX6_layOne_76 ?_
                obtain ⟨r14, c14, hf⟩ := gb_some hf
                refine ga_cV3 C hK eX6_layOne_77 nRX6_163 mX6_hasRoom vX6_hasRoom rfl (t_X6_hasRoom hg c14) (by decide) (Nat.le_of_ble_eq_true rfl) ?_
                obtain ⟨g15, hf⟩ := gg_some hf
                obtain ⟨M16, hx, hf⟩ := gb_some hf
                have kx16 : ga_W X M16 143 [some (.inr (some 100)), some (.inl v1), some (.inl v2), some (.inl v3), some (.inl v4), none] [] := by
                  refine ga_ii4 C eX6_layOne_143 ?_
                  refine ga_goto C eX6_layOne_146 ?_
                  refine ga_forget [true, true, true, true, true, false] rfl ?_
                  exact ih _ _ _ _ _ _ hf kx
                clear hf
                have hf := hx
                refine ga_if_ne C eX6_layOne_80 g15 (fun hc => ?_) (fun hc => ?_)
                · rw [if_pos hc] at hf
                  refine ga_goto C eX6_layOne_83 ?_
                  cases hf
                  exact ga_forget [true, true, true, true, true, false] rfl kx16
                · rw [if_neg hc] at hf
                  refine ga_al0 C eX6_layOne_86 ?_
                  refine ga_il1 C eX6_layOne_87 ?_
                  refine ga_il4 C eX6_layOne_88 ?_
                  refine ga_il3 C eX6_layOne_90 ?_
                  obtain ⟨r17, c17, hf⟩ := gb_some hf
                  refine ga_cV3 C hK eX6_layOne_91 nRX6_166 mX6_costOf vX6_costOf rfl (t_X6_costOf hg c17) (by decide) (Nat.le_of_ble_eq_true rfl) ?_
                  refine ga_is5 C eX6_layOne_94 ?_
                  refine ga_al0 C eX6_layOne_96 ?_
                  refine ga_getR C hK eX6_layOne_97 lRX6_62 rfl rfl ?_
                  refine ga_il1 C eX6_layOne_100 ?_
                  obtain ⟨g18, hf⟩ := gg_some hf
                  refine ga_iald C hK eX6_layOne_101 rfl (by decide) g18 ?_
                  refine ga_push C eX6_layOne_102 ?_
                  obtain ⟨g19, hf⟩ := gg_some hf
                  refine ga_icmp_eq C eX6_layOne_103 g19 (by decide) (fun hc => ?_) (fun hc => ?_)
                  · rw [if_pos hc] at hf
                    refine ga_al0 C eX6_layOne_120 ?_
                    refine ga_getR C hK eX6_layOne_121 lRX6_62 rfl rfl ?_
                    refine ga_il1 C eX6_layOne_124 ?_
                    refine ga_il4 C eX6_layOne_125 ?_
                    obtain ⟨M20, q20, hf⟩ := gB_some hf
                    refine ga_iast C hK eX6_layOne_127 rfl (by decide) g18 q20 ?_
                    refine ga_al0 C eX6_layOne_128 ?_
                    refine ga_getR C hK eX6_layOne_129 lRX6_65 rfl rfl ?_
                    refine ga_il1 C eX6_layOne_132 ?_
                    refine ga_il3 C eX6_layOne_133 ?_
                    obtain ⟨M21, q21, hf⟩ := gB_some hf
                    refine ga_iast C hK eX6_layOne_134 rfl (by decide) g18 q21 ?_
                    refine ga_al0 C eX6_layOne_135 ?_
                    refine ga_getR C hK eX6_layOne_136 lRX6_68 rfl rfl ?_
                    refine ga_il1 C eX6_layOne_139 ?_
                    refine ga_il5 C eX6_layOne_140 ?_
                    obtain ⟨M22, q22, hf⟩ := gB_some hf
                    refine ga_iast C hK eX6_layOne_142 rfl (by decide) g18 q22 ?_
                    cases hf
                    exact ga_forget [true, true, true, true, true, false] rfl kx16
                  · rw [if_neg hc] at hf
                    refine ga_il5 C eX6_layOne_106 ?_
                    refine ga_al0 C eX6_layOne_108 ?_
                    refine ga_getR C hK eX6_layOne_109 lRX6_68 rfl rfl ?_
                    refine ga_il1 C eX6_layOne_112 ?_
                    refine ga_iald C hK eX6_layOne_113 rfl (by decide) g18 ?_
                    obtain ⟨g23, hf⟩ := gg_some hf
                    obtain ⟨g24, hf⟩ := gg_some hf
                    refine ga_icmp_lt C eX6_layOne_114 g23 g24 (fun hc => ?_) (fun hc => ?_)
                    · rw [if_pos hc] at hf
                      refine ga_goto C eX6_layOne_117 ?_
                      cases hf
                      exact ga_forget [true, true, true, true, true, false] rfl kx16
                    · rw [if_neg hc] at hf
                      refine ga_al0 C eX6_layOne_120 ?_
                      refine ga_getR C hK eX6_layOne_121 lRX6_62 rfl rfl ?_
                      refine ga_il1 C eX6_layOne_124 ?_
                      refine ga_il4 C eX6_layOne_125 ?_
                      obtain ⟨M25, q25, hf⟩ := gB_some hf
                      refine ga_iast C hK eX6_layOne_127 rfl (by decide) g18 q25 ?_
                      refine ga_al0 C eX6_layOne_128 ?_
                      refine ga_getR C hK eX6_layOne_129 lRX6_65 rfl rfl ?_
                      refine ga_il1 C eX6_layOne_132 ?_
                      refine ga_il3 C eX6_layOne_133 ?_
                      obtain ⟨M26, q26, hf⟩ := gB_some hf
                      refine ga_iast C hK eX6_layOne_134 rfl (by decide) g18 q26 ?_
                      refine ga_al0 C eX6_layOne_135 ?_
                      refine ga_getR C hK eX6_layOne_136 lRX6_68 rfl rfl ?_
                      refine ga_il1 C eX6_layOne_139 ?_
                      refine ga_il5 C eX6_layOne_140 ?_
                      obtain ⟨M27, q27, hf⟩ := gB_some hf
                      refine ga_iast C hK eX6_layOne_142 rfl (by decide) g18 q27 ?_
                      cases hf
                      exact ga_forget [true, true, true, true, true, false] rfl kx16
              · rw [if_neg hc] at hf
                cases hf
                exact ga_forget [true, true, true, true, false, false] rfl kx
          obtain ⟨M11, hl11, hf⟩ := gb_some hf
          refine ga_forget [true, true, true, true, true, false] rfl ?_
          refine L63 G _ _ _ _ _ _ hl11 ?_
          refine ga_ii3 C eX6_layOne_149 ?_
          refine ga_goto C eX6_layOne_152 ?_
          refine ga_forget [true, true, true, true, false, false] rfl ?_
          exact ih _ _ _ _ _ hf kx
        · rw [if_neg hc] at hf
          refine ga_al0 C eX6_layOne_47 ?_
          refine ga_getR C hK eX6_layOne_48 lRX6_62 rfl rfl ?_
          refine ga_il1 C eX6_layOne_51 ?_
          refine ga_iald C hK eX6_layOne_52 rfl (by decide) g7 ?_
          refine ga_push C eX6_layOne_53 ?_
          obtain ⟨g28, hf⟩ := gg_some hf
          refine ga_icmp_eq C eX6_layOne_54 g28 (by decide) (fun hc => ?_) (fun hc => ?_)
          · rw [if_pos hc] at hf
            refine ga_push C eX6_layOne_60 ?_
            refine ga_is4 C eX6_layOne_61 ?_
            have L63 : ∀ (F : Nat) (M : gaM) (v1 : Int) (v2 : Int) (v3 : Int) (v4 : Int) (M29 : gaM), l_X6_layOne_63 G n F M v1 v2 v3 v4 = some M29 → ga_W X M29 149 [some (.inr (some 100)), some (.inl v1), some (.inl v2), some (.inl v3), none, none] [] → ga_W X M 63 [some (.inr (some 100)), some (.inl v1), some (.inl v2), some (.inl v3), some (.inl v4), none] [] := by
              intro F
              induction F with
              | zero =>
                intro M v1 v2 v3 v4 M29 hf kx
                cases hf
              | succ F ih =>
                intro M v1 v2 v3 v4 M29 hf kx
                rw [l_X6_layOne_63] at hf
                refine ga_il4 C eX6_layOne_63 ?_
                refine ga_al0 C eX6_layOne_65 ?_
                refine ga_getI C hK eX6_layOne_66 lRX6_102 rfl rfl ?_
                obtain ⟨g30, hf⟩ := gg_some hf
                obtain ⟨g31, hf⟩ := gg_some hf
                refine ga_icmp_ge C eX6_layOne_69 g30 g31 (fun hc => ?_) (fun hc => ?_)
                · rw [if_pos hc] at hf
                  refine ga_al0 C eX6_layOne_72 ?_
                  refine ga_il1 C eX6_layOne_73 ?_
                  refine ga_il4 C eX6_layOne_74 ?_
                  refine ga_il3 C eX6_layOne_76 ?_
                  obtain ⟨r32, c32, hf⟩ := gb_some hf
                  refine ga_cV3 C hK eX6_layOne_77 nRX6_163 mX6_hasRoom vX6_hasRoom rfl (t_X6_hasRoom hg c32) (by decide) (Nat.le_of_ble_eq_true rfl) ?_
                  obtain ⟨g33, hf⟩ := gg_some hf
                  obtain ⟨M34, hx, hf⟩ := gb_some hf
                  have kx34 : ga_W X M34 143 [some (.inr (some 100)), some (.inl v1), some (.inl v2), some (.inl v3), some (.inl v4), none] [] := by
                    refine ga_ii4 C eX6_layOne_143 ?_
                    refine ga_goto C eX6_layOne_146 ?_
                    refine ga_forget [true, true, true, true, true, false] rfl ?_
                    exact ih _ _ _ _ _ _ hf kx
                  clear hf
                  have hf := hx
                  refine ga_if_ne C eX6_layOne_80 g33 (fun hc => ?_) (fun hc => ?_)
                  · rw [if_pos hc] at hf
                    refine ga_goto C eX6_layOne_83 ?_
                    cases hf
                    exact ga_forget [true, true, true, true, true, false] rfl kx34
                  · rw [if_neg hc] at hf
                    refine ga_al0 C eX6_layOne_86 ?_
                    refine ga_il1 C eX6_layOne_87 ?_
                    refine ga_il4 C eX6_layOne_88 ?_
                    refine ga_il3 C eX6_layOne_90 ?_
                    obtain ⟨r35, c35, hf⟩ := gb_some hf
                    refine ga_cV3 C hK eX6_layOne_91 nRX6_166 mX6_costOf vX6_costOf rfl (t_X6_costOf hg c35) (by decide) (Nat.le_of_ble_eq_true rfl) ?_
                    refine ga_is5 C eX6_layOne_94 ?_
                    refine ga_al0 C eX6_layOne_96 ?_
                    refine ga_getR C hK eX6_layOne_97 lRX6_62 rfl rfl ?_
                    refine ga_il1 C eX6_layOne_100 ?_
                    obtain ⟨g36, hf⟩ := gg_some hf
                    refine ga_iald C hK eX6_layOne_101 rfl (by decide) g36 ?_
                    refine ga_push C eX6_layOne_102 ?_
                    obtain ⟨g37, hf⟩ := gg_some hf
                    refine ga_icmp_eq C eX6_layOne_103 g37 (by decide) (fun hc => ?_) (fun hc => ?_)
                    · rw [if_pos hc] at hf
                      refine ga_al0 C eX6_layOne_120 ?_
                      refine ga_getR C hK eX6_layOne_121 lRX6_62 rfl rfl ?_
                      refine ga_il1 C eX6_layOne_124 ?_
                      refine ga_il4 C eX6_layOne_125 ?_
                      obtain ⟨M38, q38, hf⟩ := gB_some hf
                      refine ga_iast C hK eX6_layOne_127 rfl (by decide) g36 q38 ?_
                      refine ga_al0 C eX6_layOne_128 ?_
                      refine ga_getR C hK eX6_layOne_129 lRX6_65 rfl rfl ?_
                      refine ga_il1 C eX6_layOne_132 ?_
                      refine ga_il3 C eX6_layOne_133 ?_
                      obtain ⟨M39, q39, hf⟩ := gB_some hf
                      refine ga_iast C hK eX6_layOne_134 rfl (by decide) g36 q39 ?_
                      refine ga_al0 C eX6_layOne_135 ?_
                      refine ga_getR C hK eX6_layOne_136 lRX6_68 rfl rfl ?_
                      refine ga_il1 C eX6_layOne_139 ?_
                      refine ga_il5 C eX6_layOne_140 ?_
                      obtain ⟨M40, q40, hf⟩ := gB_some hf
                      refine ga_iast C hK eX6_layOne_142 rfl (by decide) g36 q40 ?_
                      cases hf
                      exact ga_forget [true, true, true, true, true, false] rfl kx34
                    · rw [if_neg hc] at hf
                      refine ga_il5 C eX6_layOne_106 ?_
                      refine ga_al0 C eX6_layOne_108 ?_
                      refine ga_getR C hK eX6_layOne_109 lRX6_68 rfl rfl ?_
                      refine ga_il1 C eX6_layOne_112 ?_
                      refine ga_iald C hK eX6_layOne_113 rfl (by decide) g36 ?_
                      obtain ⟨g41, hf⟩ := gg_some hf
                      obtain ⟨g42, hf⟩ := gg_some hf
                      refine ga_icmp_lt C eX6_layOne_114 g41 g42 (fun hc => ?_) (fun hc => ?_)
                      · rw [if_pos hc] at hf
                        refine ga_goto C eX6_layOne_117 ?_
                        cases hf
                        exact ga_forget [true, true, true, true, true, false] rfl kx34
                      · rw [if_neg hc] at hf
                        refine ga_al0 C eX6_layOne_120 ?_
                        refine ga_getR C hK eX6_layOne_121 lRX6_62 rfl rfl ?_
                        refine ga_il1 C eX6_layOne_124 ?_
                        refine ga_il4 C eX6_layOne_125 ?_
                        obtain ⟨M43, q43, hf⟩ := gB_some hf
                        refine ga_iast C hK eX6_layOne_127 rfl (by decide) g36 q43 ?_
                        refine ga_al0 C eX6_layOne_128 ?_
                        refine ga_getR C hK eX6_layOne_129 lRX6_65 rfl rfl ?_
                        refine ga_il1 C eX6_layOne_132 ?_
                        refine ga_il3 C eX6_layOne_133 ?_
                        obtain ⟨M44, q44, hf⟩ := gB_some hf
                        refine ga_iast C hK eX6_layOne_134 rfl (by decide) g36 q44 ?_
                        refine ga_al0 C eX6_layOne_135 ?_
                        refine ga_getR C hK eX6_layOne_136 lRX6_68 rfl rfl ?_
                        refine ga_il1 C eX6_layOne_139 ?_
                        refine ga_il5 C eX6_layOne_140 ?_
                        obtain ⟨M45, q45, hf⟩ := gB_some hf
                        refine ga_iast C hK eX6_layOne_142 rfl (by decide) g36 q45 ?_
                        cases hf
                        exact ga_forget [true, true, true, true, true, false] rfl kx34
                · rw [if_neg hc] at hf
                  cases hf
                  exact ga_forget [true, true, true, true, false, false] rfl kx
            obtain ⟨M29, hl29, hf⟩ := gb_some hf
            refine ga_forget [true, true, true, true, true, false] rfl ?_
            refine L63 G _ _ _ _ _ _ hl29 ?_
            refine ga_ii3 C eX6_layOne_149 ?_
            refine ga_goto C eX6_layOne_152 ?_
            refine ga_forget [true, true, true, true, false, false] rfl ?_
            exact ih _ _ _ _ _ hf kx
          · rw [if_neg hc] at hf
            refine ga_goto C eX6_layOne_57 ?_
            cases hf
            exact ga_forget [true, true, false, false, false, false] rfl kx
      · rw [if_neg hc] at hf
        cases hf
        exact ga_forget [true, true, false, false, false, false] rfl kx
  obtain ⟨M6, hl6, hf⟩ := gb_some hf
  refine ga_forget [true, true, true, true, false, false] rfl ?_
  refine L26 G _ _ _ _ _ hl6 ?_
  refine ga_al0 C eX6_layOne_155 ?_
  refine ga_getR C hK eX6_layOne_156 lRX6_62 rfl rfl ?_
  refine ga_il1 C eX6_layOne_159 ?_
  refine ga_iald C hK eX6_layOne_160 rfl (by decide) g1 ?_
  refine ga_push C eX6_layOne_161 ?_
  obtain ⟨g46, hf⟩ := gg_some hf
  refine ga_icmp_eq C eX6_layOne_162 g46 (by decide) (fun hc => ?_) (fun hc => ?_)
  · rw [if_pos hc] at hf
    exact ga_vretW C T eX6_layOne_183 hf
  · rw [if_neg hc] at hf
    refine ga_al0 C eX6_layOne_165 ?_
    refine ga_il1 C eX6_layOne_166 ?_
    refine ga_al0 C eX6_layOne_167 ?_
    refine ga_getR C hK eX6_layOne_168 lRX6_62 rfl rfl ?_
    refine ga_il1 C eX6_layOne_171 ?_
    refine ga_iald C hK eX6_layOne_172 rfl (by decide) g1 ?_
    refine ga_al0 C eX6_layOne_173 ?_
    refine ga_getR C hK eX6_layOne_174 lRX6_65 rfl rfl ?_
    refine ga_il1 C eX6_layOne_177 ?_
    refine ga_iald C hK eX6_layOne_178 rfl (by decide) g1 ?_
    refine ga_push C eX6_layOne_179 ?_
    obtain ⟨M47, c47, hf⟩ := gb_some hf
    refine ga_cV4 C hK eX6_layOne_180 nRX6_136 mX6_puts vX6_puts rfl (t_X6_puts hg c47) (by decide) (Nat.le_of_ble_eq_true rfl) ?_
    exact ga_vretW C T eX6_layOne_183 hf

set_option maxRecDepth 20000 in
set_option maxHeartbeats 4000000 in
theorem t_X6_lays {n e cp G : Nat} (hg : gh n e cp) {M Mz : gaM}  (hf : f_X6_lays G n M = some Mz) : ga_Met yX6_lays cX6_lays 3 none 2 (gk n e cp) M [.inr (some 100)] none Mz := by
  refine ga_met (by decide) rfl (Nat.le_of_ble_eq_true rfl) ?_
  intro X C hK T
  show ga_W X M 0 [some (.inr (some 100)), none, none] []
  unfold f_X6_lays at hf
  refine ga_push C eX6_lays_0 ?_
  refine ga_is1 C eX6_lays_1 ?_
  have L2 : ∀ (F : Nat) (M : gaM) (v1 : Int) (M1 : gaM), l_X6_lays_2 G n F M v1 = some M1 → ga_W X M1 37 [some (.inr (some 100)), none, none] [] → ga_W X M 2 [some (.inr (some 100)), some (.inl v1), none] [] := by
    intro F
    induction F with
    | zero =>
      intro M v1 M1 hf kx
      cases hf
    | succ F ih =>
      intro M v1 M1 hf kx
      rw [l_X6_lays_2] at hf
      refine ga_il1 C eX6_lays_2 ?_
      refine ga_push C eX6_lays_3 ?_
      obtain ⟨g2, hf⟩ := gg_some hf
      refine ga_icmp_ge C eX6_lays_5 g2 (by decide) (fun hc => ?_) (fun hc => ?_)
      · rw [if_pos hc] at hf
        refine ga_al0 C eX6_lays_8 ?_
        refine ga_getR C hK eX6_lays_9 lRX6_83 rfl rfl ?_
        refine ga_il1 C eX6_lays_12 ?_
        refine ga_al0 C eX6_lays_13 ?_
        refine ga_il1 C eX6_lays_14 ?_
        obtain ⟨r3, c3, hf⟩ := gb_some hf
        refine ga_cV1 C hK eX6_lays_15 nRX6_140 mX6_delayOf vX6_delayOf rfl (t_X6_delayOf hg c3) (by decide) (Nat.le_of_ble_eq_true rfl) ?_
        refine ga_al0 C eX6_lays_18 ?_
        refine ga_getI C hK eX6_lays_19 lRX6_16 rfl rfl ?_
        obtain ⟨g4, hf⟩ := gg_some hf
        obtain ⟨g5, hf⟩ := gg_some hf
        obtain ⟨s0_6, hx, hf⟩ := gb_some hf
        have kx6 : ga_W X M 30 [some (.inr (some 100)), some (.inl v1), none] [.inl s0_6, .inl v1, .inr (some 127)] := by
          obtain ⟨b7, hf⟩ := gg_some hf
          obtain ⟨g8, hf⟩ := gg_some hf
          obtain ⟨M7, q7, hf⟩ := gB_some hf
          refine ga_zast C hK eX6_lays_30 rfl (by decide) g8 b7 q7 ?_
          refine ga_ii1 C eX6_lays_31 ?_
          refine ga_goto C eX6_lays_34 ?_
          refine ga_forget [true, true, false] rfl ?_
          exact ih _ _ _ hf kx
        clear hf
        have hf := hx
        refine ga_icmp_le C eX6_lays_22 g4 g5 (fun hc => ?_) (fun hc => ?_)
        · rw [if_pos hc] at hf
          refine ga_push C eX6_lays_25 ?_
          refine ga_goto C eX6_lays_26 ?_
          cases hf
          exact ga_forget [true, true, false] rfl kx6
        · rw [if_neg hc] at hf
          refine ga_push C eX6_lays_29 ?_
          cases hf
          exact ga_forget [true, true, false] rfl kx6
      · rw [if_neg hc] at hf
        cases hf
        exact ga_forget [true, false, false] rfl kx
  obtain ⟨M1, hl1, hf⟩ := gb_some hf
  refine ga_forget [true, true, false] rfl ?_
  refine L2 G _ _ _ hl1 ?_
  refine ga_al0 C eX6_lays_37 ?_
  obtain ⟨M9, c9, hf⟩ := gb_some hf
  refine ga_cV0 C hK eX6_lays_38 nRX6_143 mX6_uses vX6_uses rfl (t_X6_uses hg c9) (by decide) (Nat.le_of_ble_eq_true rfl) ?_
  refine ga_al0 C eX6_lays_41 ?_
  refine ga_push C eX6_lays_42 ?_
  obtain ⟨M10, q10, hf⟩ := gB_some hf
  refine ga_putI C hK eX6_lays_43 lRX6_146 (by intro q hq; cases hq; exact ⟨rfl, rfl⟩) rfl rfl q10 ?_
  refine ga_push C eX6_lays_46 ?_
  refine ga_is1 C eX6_lays_47 ?_
  have L48 : ∀ (F : Nat) (M : gaM) (v1 : Int) (M11 : gaM), l_X6_lays_48 G n F M v1 = some M11 → ga_W X M11 157 [some (.inr (some 100)), none, none] [] → ga_W X M 48 [some (.inr (some 100)), some (.inl v1), none] [] := by
    intro F
    induction F with
    | zero =>
      intro M v1 M11 hf kx
      cases hf
    | succ F ih =>
      intro M v1 M11 hf kx
      rw [l_X6_lays_48] at hf
      refine ga_il1 C eX6_lays_48 ?_
      refine ga_al0 C eX6_lays_49 ?_
      refine ga_getI C hK eX6_lays_50 lRX6_105 rfl rfl ?_
      obtain ⟨g12, hf⟩ := gg_some hf
      obtain ⟨g13, hf⟩ := gg_some hf
      refine ga_icmp_ge C eX6_lays_53 g12 g13 (fun hc => ?_) (fun hc => ?_)
      · rw [if_pos hc] at hf
        refine ga_al0 C eX6_lays_56 ?_
        refine ga_getR C hK eX6_lays_57 lRX6_62 rfl rfl ?_
        refine ga_il1 C eX6_lays_60 ?_
        refine ga_push C eX6_lays_61 ?_
        obtain ⟨g15, hf⟩ := gg_some hf
        obtain ⟨M14, q14, hf⟩ := gB_some hf
        refine ga_iast C hK eX6_lays_62 rfl (by decide) g15 q14 ?_
        refine ga_al0 C eX6_lays_63 ?_
        refine ga_getR C hK eX6_lays_64 lRX6_65 rfl rfl ?_
        refine ga_il1 C eX6_lays_67 ?_
        refine ga_push C eX6_lays_68 ?_
        obtain ⟨M16, q16, hf⟩ := gB_some hf
        refine ga_iast C hK eX6_lays_69 rfl (by decide) g15 q16 ?_
        refine ga_al0 C eX6_lays_70 ?_
        refine ga_getR C hK eX6_lays_71 lRX6_68 rfl rfl ?_
        refine ga_il1 C eX6_lays_74 ?_
        refine ga_push C eX6_lays_75 ?_
        obtain ⟨M17, q17, hf⟩ := gB_some hf
        refine ga_iast C hK eX6_lays_76 rfl (by decide) g15 q17 ?_
        refine ga_al0 C eX6_lays_77 ?_
        refine ga_getR C hK eX6_lays_78 lRX6_47 rfl rfl ?_
        refine ga_il1 C eX6_lays_81 ?_
        refine ga_iald C hK eX6_lays_82 rfl (by decide) g15 ?_
        obtain ⟨g18, hf⟩ := gg_some hf
        obtain ⟨M19, hx, hf⟩ := gb_some hf
        have kx19 : ga_W X M19 151 [some (.inr (some 100)), some (.inl v1), none] [] := by
          refine ga_ii1 C eX6_lays_151 ?_
          refine ga_goto C eX6_lays_154 ?_
          refine ga_forget [true, true, false] rfl ?_
          exact ih _ _ _ hf kx
        clear hf
        have hf := hx
        refine ga_if_eq C eX6_lays_83 g18 (fun hc => ?_) (fun hc => ?_)
        · rw [if_pos hc] at hf
          refine ga_al0 C eX6_lays_89 ?_
          refine ga_getI C hK eX6_lays_90 lRX6_146 rfl rfl ?_
          refine ga_is2 C eX6_lays_93 ?_
          have L94 : ∀ (F : Nat) (M : gaM) (v1 : Int) (v2 : Int) (M20 : gaM) (x2_20 : Int), l_X6_lays_94 G n F M v1 v2 = some (M20, x2_20) → ga_W X M20 134 [some (.inr (some 100)), some (.inl v1), some (.inl x2_20)] [] → ga_W X M 94 [some (.inr (some 100)), some (.inl v1), some (.inl v2)] [] := by
            intro F
            induction F with
            | zero =>
              intro M v1 v2 M20 x2_20 hf kx
              cases hf
            | succ F ih =>
              intro M v1 v2 M20 x2_20 hf kx
              rw [l_X6_lays_94] at hf
              refine ga_il2 C eX6_lays_94 ?_
              obtain ⟨g21, hf⟩ := gg_some hf
              refine ga_if_le C eX6_lays_95 g21 (fun hc => ?_) (fun hc => ?_)
              · rw [if_pos hc] at hf
                refine ga_al0 C eX6_lays_98 ?_
                refine ga_il1 C eX6_lays_99 ?_
                refine ga_al0 C eX6_lays_100 ?_
                refine ga_getR C hK eX6_lays_101 lRX6_71 rfl rfl ?_
                refine ga_il2 C eX6_lays_104 ?_
                refine ga_push C eX6_lays_105 ?_
                refine ga_isub C eX6_lays_106 ?_
                obtain ⟨g22, hf⟩ := gg_some hf
                refine ga_iald C hK eX6_lays_107 rfl (by decide) g22 ?_
                obtain ⟨r23, c23, hf⟩ := gb_some hf
                refine ga_cV2 C hK eX6_lays_108 nRX6_149 mX6_isAhead vX6_isAhead rfl (t_X6_isAhead hg c23) (by decide) (Nat.le_of_ble_eq_true rfl) ?_
                obtain ⟨g24, hf⟩ := gg_some hf
                refine ga_if_eq C eX6_lays_111 g24 (fun hc => ?_) (fun hc => ?_)
                · rw [if_pos hc] at hf
                  cases hf
                  exact ga_forget [true, true, true] rfl kx
                · rw [if_neg hc] at hf
                  refine ga_al0 C eX6_lays_114 ?_
                  refine ga_getR C hK eX6_lays_115 lRX6_71 rfl rfl ?_
                  refine ga_il2 C eX6_lays_118 ?_
                  refine ga_al0 C eX6_lays_119 ?_
                  refine ga_getR C hK eX6_lays_120 lRX6_71 rfl rfl ?_
                  refine ga_il2 C eX6_lays_123 ?_
                  refine ga_push C eX6_lays_124 ?_
                  refine ga_isub C eX6_lays_125 ?_
                  refine ga_iald C hK eX6_lays_126 rfl (by decide) g22 ?_
                  obtain ⟨g26, hf⟩ := gg_some hf
                  obtain ⟨M25, q25, hf⟩ := gB_some hf
                  refine ga_iast C hK eX6_lays_127 rfl (by decide) g26 q25 ?_
                  refine ga_ii2 C eX6_lays_128 ?_
                  refine ga_goto C eX6_lays_131 ?_
                  refine ga_forget [true, true, true] rfl ?_
                  exact ih _ _ _ _ _ hf kx
              · rw [if_neg hc] at hf
                cases hf
                exact ga_forget [true, true, true] rfl kx
          obtain ⟨M20, x2_20, hl20, hf⟩ := gb2_some hf
          refine ga_forget [true, true, true] rfl ?_
          refine L94 G _ _ _ _ _ hl20 ?_
          refine ga_al0 C eX6_lays_134 ?_
          refine ga_getR C hK eX6_lays_135 lRX6_71 rfl rfl ?_
          refine ga_il2 C eX6_lays_138 ?_
          refine ga_il1 C eX6_lays_139 ?_
          obtain ⟨g28, hf⟩ := gg_some hf
          obtain ⟨M27, q27, hf⟩ := gB_some hf
          refine ga_iast C hK eX6_lays_140 rfl (by decide) g28 q27 ?_
          refine ga_al0 C eX6_lays_141 ?_
          refine ga_dup C eX6_lays_142 ?_
          refine ga_getI C hK eX6_lays_143 lRX6_146 rfl rfl ?_
          refine ga_push C eX6_lays_146 ?_
          refine ga_iadd C eX6_lays_147 ?_
          obtain ⟨M29, q29, hf⟩ := gB_some hf
          refine ga_putI C hK eX6_lays_148 lRX6_146 (by intro q hq; cases hq; exact ⟨rfl, rfl⟩) rfl rfl q29 ?_
          cases hf
          exact ga_forget [true, true, false] rfl kx19
        · rw [if_neg hc] at hf
          refine ga_goto C eX6_lays_86 ?_
          cases hf
          exact ga_forget [true, true, false] rfl kx19
      · rw [if_neg hc] at hf
        cases hf
        exact ga_forget [true, false, false] rfl kx
  obtain ⟨M11, hl11, hf⟩ := gb_some hf
  refine ga_forget [true, true, false] rfl ?_
  refine L48 G _ _ _ hl11 ?_
  refine ga_push C eX6_lays_157 ?_
  refine ga_is1 C eX6_lays_158 ?_
  have L159 : ∀ (F : Nat) (M : gaM) (v1 : Int) (M30 : gaM), l_X6_lays_159 G n F M v1 = some M30 → ga_W X M30 183 [none, none, none] [] → ga_W X M 159 [some (.inr (some 100)), some (.inl v1), none] [] := by
    intro F
    induction F with
    | zero =>
      intro M v1 M30 hf kx
      cases hf
    | succ F ih =>
      intro M v1 M30 hf kx
      rw [l_X6_lays_159] at hf
      refine ga_il1 C eX6_lays_159 ?_
      refine ga_al0 C eX6_lays_160 ?_
      refine ga_getI C hK eX6_lays_161 lRX6_146 rfl rfl ?_
      obtain ⟨g31, hf⟩ := gg_some hf
      obtain ⟨g32, hf⟩ := gg_some hf
      refine ga_icmp_ge C eX6_lays_164 g31 g32 (fun hc => ?_) (fun hc => ?_)
      · rw [if_pos hc] at hf
        refine ga_al0 C eX6_lays_167 ?_
        refine ga_al0 C eX6_lays_168 ?_
        refine ga_getR C hK eX6_lays_169 lRX6_71 rfl rfl ?_
        refine ga_il1 C eX6_lays_172 ?_
        obtain ⟨g33, hf⟩ := gg_some hf
        refine ga_iald C hK eX6_lays_173 rfl (by decide) g33 ?_
        obtain ⟨M34, c34, hf⟩ := gb_some hf
        refine ga_cV1 C hK eX6_lays_174 nRX6_153 mX6_layOne vX6_layOne rfl (t_X6_layOne hg c34) (by decide) (Nat.le_of_ble_eq_true rfl) ?_
        refine ga_ii1 C eX6_lays_177 ?_
        refine ga_goto C eX6_lays_180 ?_
        refine ga_forget [true, true, false] rfl ?_
        exact ih _ _ _ hf kx
      · rw [if_neg hc] at hf
        cases hf
        exact ga_forget [false, false, false] rfl kx
  obtain ⟨M30, hl30, hf⟩ := gb_some hf
  refine ga_forget [true, true, false] rfl ?_
  refine L159 G _ _ _ hl30 ?_
  exact ga_vretW C T eX6_lays_183 hf

set_option maxRecDepth 20000 in
set_option maxHeartbeats 4000000 in
theorem t_X6_lay {n e cp G : Nat} (hg : gh n e cp) {M Mz : gaM} {rz : Int}  (hf : f_X6_lay G n M = some (rz, Mz)) : ga_Met yX6_lay cX6_lay 3 (some .int) 3 (gk n e cp) M [.inr (some 100)] (some (.inl rz)) Mz := by
  refine ga_met (by decide) rfl (Nat.le_of_ble_eq_true rfl) ?_
  intro X C hK T
  show ga_W X M 0 [some (.inr (some 100)), none, none] []
  unfold f_X6_lay at hf
  refine ga_al0 C eX6_lay_0 ?_
  refine ga_push C eX6_lay_1 ?_
  obtain ⟨M1, q1, hf⟩ := gB_some hf
  refine ga_putI C hK eX6_lay_2 lRX6_1 (by intro q hq; cases hq; exact ⟨rfl, rfl⟩) rfl rfl q1 ?_
  refine ga_al0 C eX6_lay_5 ?_
  obtain ⟨M2, c2, hf⟩ := gb_some hf
  refine ga_cV0 C hK eX6_lay_6 nRX6_170 mX6_lays vX6_lays rfl (t_X6_lays hg c2) (by decide) (Nat.le_of_ble_eq_true rfl) ?_
  refine ga_al0 C eX6_lay_9 ?_
  refine ga_al0 C eX6_lay_10 ?_
  refine ga_getI C hK eX6_lay_11 lRX6_105 rfl rfl ?_
  obtain ⟨M3, q3, hf⟩ := gB_some hf
  refine ga_putI C hK eX6_lay_14 lRX6_87 (by intro q hq; cases hq; exact ⟨rfl, rfl⟩) rfl rfl q3 ?_
  refine ga_push C eX6_lay_17 ?_
  refine ga_is1 C eX6_lay_18 ?_
  refine ga_push C eX6_lay_19 ?_
  refine ga_is2 C eX6_lay_20 ?_
  have L21 : ∀ (F : Nat) (M : gaM) (v1 : Int) (v2 : Int) (M4 : gaM) (x1_4 : Int), l_X6_lay_21 G n F M v1 v2 = some (M4, x1_4) → ga_W X M4 89 [none, some (.inl x1_4), none] [] → ga_W X M 21 [some (.inr (some 100)), some (.inl v1), some (.inl v2)] [] := by
    intro F
    induction F with
    | zero =>
      intro M v1 v2 M4 x1_4 hf kx
      cases hf
    | succ F ih =>
      intro M v1 v2 M4 x1_4 hf kx
      rw [l_X6_lay_21] at hf
      refine ga_il2 C eX6_lay_21 ?_
      refine ga_al0 C eX6_lay_22 ?_
      refine ga_getI C hK eX6_lay_23 lRX6_105 rfl rfl ?_
      obtain ⟨g5, hf⟩ := gg_some hf
      obtain ⟨g6, hf⟩ := gg_some hf
      refine ga_icmp_ge C eX6_lay_26 g5 g6 (fun hc => ?_) (fun hc => ?_)
      · rw [if_pos hc] at hf
        refine ga_al0 C eX6_lay_29 ?_
        refine ga_getR C hK eX6_lay_30 lRX6_74 rfl rfl ?_
        refine ga_il2 C eX6_lay_33 ?_
        refine ga_al0 C eX6_lay_34 ?_
        refine ga_getR C hK eX6_lay_35 lRX6_62 rfl rfl ?_
        refine ga_il2 C eX6_lay_38 ?_
        obtain ⟨g7, hf⟩ := gg_some hf
        refine ga_iald C hK eX6_lay_39 rfl (by decide) g7 ?_
        obtain ⟨M8, q8, hf⟩ := gB_some hf
        refine ga_iast C hK eX6_lay_40 rfl (by decide) g7 q8 ?_
        refine ga_al0 C eX6_lay_41 ?_
        refine ga_getR C hK eX6_lay_42 lRX6_77 rfl rfl ?_
        refine ga_il2 C eX6_lay_45 ?_
        refine ga_al0 C eX6_lay_46 ?_
        refine ga_getR C hK eX6_lay_47 lRX6_65 rfl rfl ?_
        refine ga_il2 C eX6_lay_50 ?_
        refine ga_iald C hK eX6_lay_51 rfl (by decide) g7 ?_
        obtain ⟨M9, q9, hf⟩ := gB_some hf
        refine ga_iast C hK eX6_lay_52 rfl (by decide) g7 q9 ?_
        refine ga_al0 C eX6_lay_53 ?_
        refine ga_getR C hK eX6_lay_54 lRX6_80 rfl rfl ?_
        refine ga_il2 C eX6_lay_57 ?_
        refine ga_al0 C eX6_lay_58 ?_
        refine ga_getR C hK eX6_lay_59 lRX6_68 rfl rfl ?_
        refine ga_il2 C eX6_lay_62 ?_
        refine ga_iald C hK eX6_lay_63 rfl (by decide) g7 ?_
        obtain ⟨M10, q10, hf⟩ := gB_some hf
        refine ga_iast C hK eX6_lay_64 rfl (by decide) g7 q10 ?_
        refine ga_il1 C eX6_lay_65 ?_
        refine ga_al0 C eX6_lay_66 ?_
        refine ga_getR C hK eX6_lay_67 lRX6_62 rfl rfl ?_
        refine ga_il2 C eX6_lay_70 ?_
        refine ga_iald C hK eX6_lay_71 rfl (by decide) g7 ?_
        refine ga_push C eX6_lay_72 ?_
        obtain ⟨g11, hf⟩ := gg_some hf
        obtain ⟨s0_12, hx, hf⟩ := gb_some hf
        have kx12 : ga_W X M10 81 [some (.inr (some 100)), none, some (.inl v2)] [.inl s0_12, .inl v1] := by
          refine ga_iadd C eX6_lay_81 ?_
          refine ga_is1 C eX6_lay_82 ?_
          refine ga_ii2 C eX6_lay_83 ?_
          refine ga_goto C eX6_lay_86 ?_
          refine ga_forget [true, true, true] rfl ?_
          exact ih _ _ _ _ _ hf kx
        clear hf
        have hf := hx
        refine ga_icmp_ne C eX6_lay_73 g11 (by decide) (fun hc => ?_) (fun hc => ?_)
        · rw [if_pos hc] at hf
          refine ga_push C eX6_lay_76 ?_
          refine ga_goto C eX6_lay_77 ?_
          cases hf
          exact ga_forget [true, false, true] rfl kx12
        · rw [if_neg hc] at hf
          refine ga_push C eX6_lay_80 ?_
          cases hf
          exact ga_forget [true, false, true] rfl kx12
      · rw [if_neg hc] at hf
        cases hf
        exact ga_forget [false, true, false] rfl kx
  obtain ⟨M4, x1_4, hl4, hf⟩ := gb2_some hf
  refine ga_forget [true, true, true] rfl ?_
  refine L21 G _ _ _ _ _ hl4 ?_
  refine ga_il1 C eX6_lay_89 ?_
  exact ga_iretW C T eX6_lay_90 hf

set_option maxRecDepth 20000 in
set_option maxHeartbeats 4000000 in
theorem t_X6_laid {n e cp G : Nat} (hg : gh n e cp) {M Mz : gaM} {v1 v2 : Int} {rz : Int}  (hf : f_X6_laid G n M v1 v2 = some (rz, Mz)) : ga_Met yX6_laid cX6_laid 3 (some .int) 0 (gk n e cp) M [.inr (some 100), .inl v1, .inl v2] (some (.inl rz)) Mz := by
  refine ga_met (by decide) rfl (Nat.le_of_ble_eq_true rfl) ?_
  intro X C hK T
  show ga_W X M 0 [some (.inr (some 100)), some (.inl v1), some (.inl v2)] []
  unfold f_X6_laid at hf
  refine ga_al0 C eX6_laid_0 ?_
  refine ga_push C eX6_laid_1 ?_
  obtain ⟨M1, q1, hf⟩ := gB_some hf
  refine ga_putI C hK eX6_laid_2 lRX6_1 (by intro q hq; cases hq; exact ⟨rfl, rfl⟩) rfl rfl q1 ?_
  refine ga_il1 C eX6_laid_5 ?_
  obtain ⟨g2, hf⟩ := gg_some hf
  refine ga_if_lt C eX6_laid_6 g2 (fun hc => ?_) (fun hc => ?_)
  · rw [if_pos hc] at hf
    refine ga_il1 C eX6_laid_9 ?_
    refine ga_al0 C eX6_laid_10 ?_
    refine ga_getI C hK eX6_laid_11 lRX6_87 rfl rfl ?_
    obtain ⟨g3, hf⟩ := gg_some hf
    refine ga_icmp_lt C eX6_laid_14 g2 g3 (fun hc => ?_) (fun hc => ?_)
    · rw [if_pos hc] at hf
      refine ga_push C eX6_laid_17 ?_
      exact ga_iretW C T eX6_laid_18 hf
    · rw [if_neg hc] at hf
      refine ga_il2 C eX6_laid_19 ?_
      obtain ⟨g4, hf⟩ := gg_some hf
      refine ga_if_ne C eX6_laid_20 g4 (fun hc => ?_) (fun hc => ?_)
      · rw [if_pos hc] at hf
        refine ga_al0 C eX6_laid_23 ?_
        refine ga_getR C hK eX6_laid_24 lRX6_74 rfl rfl ?_
        refine ga_il1 C eX6_laid_27 ?_
        obtain ⟨g5, hf⟩ := gg_some hf
        refine ga_iald C hK eX6_laid_28 rfl (by decide) g5 ?_
        refine ga_goto C eX6_laid_29 ?_
        exact ga_iretW C T eX6_laid_61 hf
      · rw [if_neg hc] at hf
        refine ga_il2 C eX6_laid_32 ?_
        refine ga_push C eX6_laid_33 ?_
        refine ga_icmp_ne C eX6_laid_34 g4 (by decide) (fun hc => ?_) (fun hc => ?_)
        · rw [if_pos hc] at hf
          refine ga_al0 C eX6_laid_37 ?_
          refine ga_getR C hK eX6_laid_38 lRX6_77 rfl rfl ?_
          refine ga_il1 C eX6_laid_41 ?_
          obtain ⟨g6, hf⟩ := gg_some hf
          refine ga_iald C hK eX6_laid_42 rfl (by decide) g6 ?_
          refine ga_goto C eX6_laid_43 ?_
          exact ga_iretW C T eX6_laid_61 hf
        · rw [if_neg hc] at hf
          refine ga_il2 C eX6_laid_46 ?_
          refine ga_push C eX6_laid_47 ?_
          refine ga_icmp_ne C eX6_laid_48 g4 (by decide) (fun hc => ?_) (fun hc => ?_)
          · rw [if_pos hc] at hf
            refine ga_al0 C eX6_laid_51 ?_
            refine ga_getR C hK eX6_laid_52 lRX6_80 rfl rfl ?_
            refine ga_il1 C eX6_laid_55 ?_
            obtain ⟨g7, hf⟩ := gg_some hf
            refine ga_iald C hK eX6_laid_56 rfl (by decide) g7 ?_
            refine ga_goto C eX6_laid_57 ?_
            exact ga_iretW C T eX6_laid_61 hf
          · rw [if_neg hc] at hf
            refine ga_push C eX6_laid_60 ?_
            exact ga_iretW C T eX6_laid_61 hf
  · rw [if_neg hc] at hf
    refine ga_push C eX6_laid_17 ?_
    exact ga_iretW C T eX6_laid_18 hf

set_option maxRecDepth 20000 in
set_option maxHeartbeats 4000000 in
theorem t_X6_cost {n e cp G : Nat} (hg : gh n e cp) {M Mz : gaM} {rz : Int}  (hf : f_X6_cost G n M = some (rz, Mz)) : ga_Met yX6_cost cX6_cost 3 (some .int) 0 (gk n e cp) M [.inr (some 100)] (some (.inl rz)) Mz := by
  refine ga_met (by decide) rfl (Nat.le_of_ble_eq_true rfl) ?_
  intro X C hK T
  show ga_W X M 0 [some (.inr (some 100)), none, none] []
  unfold f_X6_cost at hf
  refine ga_al0 C eX6_cost_0 ?_
  refine ga_push C eX6_cost_1 ?_
  obtain ⟨M1, q1, hf⟩ := gB_some hf
  refine ga_putI C hK eX6_cost_2 lRX6_1 (by intro q hq; cases hq; exact ⟨rfl, rfl⟩) rfl rfl q1 ?_
  refine ga_al0 C eX6_cost_5 ?_
  refine ga_getI C hK eX6_cost_6 lRX6_87 rfl rfl ?_
  refine ga_push C eX6_cost_9 ?_
  obtain ⟨g2, hf⟩ := gg_some hf
  refine ga_icmp_ne C eX6_cost_10 g2 (by decide) (fun hc => ?_) (fun hc => ?_)
  · rw [if_pos hc] at hf
    refine ga_push C eX6_cost_13 ?_
    exact ga_iretW C T eX6_cost_14 hf
  · rw [if_neg hc] at hf
    refine ga_push C eX6_cost_15 ?_
    refine ga_is1 C eX6_cost_16 ?_
    refine ga_push C eX6_cost_17 ?_
    refine ga_is2 C eX6_cost_18 ?_
    have L19 : ∀ (F : Nat) (M : gaM) (v1 : Int) (v2 : Int) (x1_3 : Int), l_X6_cost_19 G n F M v1 v2 = some x1_3 → ga_W X M 56 [none, some (.inl x1_3), none] [] → ga_W X M 19 [some (.inr (some 100)), some (.inl v1), some (.inl v2)] [] := by
      intro F
      induction F with
      | zero =>
        intro M v1 v2 x1_3 hf kx
        cases hf
      | succ F ih =>
        intro M v1 v2 x1_3 hf kx
        rw [l_X6_cost_19] at hf
        refine ga_il2 C eX6_cost_19 ?_
        refine ga_al0 C eX6_cost_20 ?_
        refine ga_getI C hK eX6_cost_21 lRX6_87 rfl rfl ?_
        obtain ⟨g4, hf⟩ := gg_some hf
        obtain ⟨g5, hf⟩ := gg_some hf
        refine ga_icmp_ge C eX6_cost_24 g4 g5 (fun hc => ?_) (fun hc => ?_)
        · rw [if_pos hc] at hf
          refine ga_il1 C eX6_cost_27 ?_
          refine ga_al0 C eX6_cost_28 ?_
          refine ga_getR C hK eX6_cost_29 lRX6_74 rfl rfl ?_
          refine ga_il2 C eX6_cost_32 ?_
          obtain ⟨g6, hf⟩ := gg_some hf
          refine ga_iald C hK eX6_cost_33 rfl (by decide) g6 ?_
          refine ga_push C eX6_cost_34 ?_
          obtain ⟨g7, hf⟩ := gg_some hf
          obtain ⟨s0_8, hx, hf⟩ := gb_some hf
          have kx8 : ga_W X M 48 [some (.inr (some 100)), none, some (.inl v2)] [.inl s0_8, .inl v1] := by
            refine ga_iadd C eX6_cost_48 ?_
            refine ga_is1 C eX6_cost_49 ?_
            refine ga_ii2 C eX6_cost_50 ?_
            refine ga_goto C eX6_cost_53 ?_
            refine ga_forget [true, true, true] rfl ?_
            exact ih _ _ _ _ hf kx
          clear hf
          have hf := hx
          refine ga_icmp_ne C eX6_cost_35 g7 (by decide) (fun hc => ?_) (fun hc => ?_)
          · rw [if_pos hc] at hf
            refine ga_push C eX6_cost_38 ?_
            refine ga_goto C eX6_cost_39 ?_
            cases hf
            exact ga_forget [true, false, true] rfl kx8
          · rw [if_neg hc] at hf
            refine ga_al0 C eX6_cost_42 ?_
            refine ga_getR C hK eX6_cost_43 lRX6_80 rfl rfl ?_
            refine ga_il2 C eX6_cost_46 ?_
            refine ga_iald C hK eX6_cost_47 rfl (by decide) g6 ?_
            cases hf
            exact ga_forget [true, false, true] rfl kx8
        · rw [if_neg hc] at hf
          cases hf
          exact ga_forget [false, true, false] rfl kx
    obtain ⟨x1_3, hl3, hf⟩ := gb_some hf
    refine ga_forget [true, true, true] rfl ?_
    refine L19 G _ _ _ _ hl3 ?_
    refine ga_il1 C eX6_cost_56 ?_
    exact ga_iretW C T eX6_cost_57 hf

set_option maxRecDepth 20000 in
set_option maxHeartbeats 4000000 in
theorem t_X6_lists {n e cp G : Nat} (hg : gh n e cp) {M Mz : gaM} {v1 v2 : Int}  (hf : f_X6_lists G n M v1 v2 = some Mz) : ga_Met yX6_lists cX6_lists 8 none 1 (gk n e cp) M [.inr (some 100), .inl v1, .inl v2] none Mz := by
  refine ga_met (by decide) rfl (Nat.le_of_ble_eq_true rfl) ?_
  intro X C hK T
  show ga_W X M 0 [some (.inr (some 100)), some (.inl v1), some (.inl v2), none, none, none, none, none] []
  unfold f_X6_lists at hf
  refine ga_push C eX6_lists_0 ?_
  refine ga_il1 C eX6_lists_3 ?_
  refine ga_imul C eX6_lists_4 ?_
  refine ga_is3 C eX6_lists_5 ?_
  refine ga_al0 C eX6_lists_6 ?_
  refine ga_getR C hK eX6_lists_7 lRX6_93 rfl rfl ?_
  refine ga_il1 C eX6_lists_10 ?_
  refine ga_push C eX6_lists_11 ?_
  obtain ⟨g2, hf⟩ := gg_some hf
  obtain ⟨M1, q1, hf⟩ := gB_some hf
  refine ga_iast C hK eX6_lists_12 rfl (by decide) g2 q1 ?_
  refine ga_al0 C eX6_lists_13 ?_
  refine ga_getI C hK eX6_lists_14 lRX6_130 rfl rfl ?_
  refine ga_al0 C eX6_lists_17 ?_
  refine ga_getR C hK eX6_lists_18 lRX6_38 rfl rfl ?_
  refine ga_il2 C eX6_lists_21 ?_
  obtain ⟨g3, hf⟩ := gg_some hf
  refine ga_iald C hK eX6_lists_22 rfl (by decide) g3 ?_
  obtain ⟨g5, hf⟩ := gg_some hf
  obtain ⟨g6, hf⟩ := gg_some hf
  refine ga_max C eX6_lists_23 nRX6_157 (by decide) g5 g6 (Nat.le_of_ble_eq_true rfl) ?_
  refine ga_is4 C eX6_lists_26 ?_
  have L28 : ∀ (F : Nat) (M : gaM) (v1 : Int) (v2 : Int) (v3 : Int) (v4 : Int) (M7 : gaM), l_X6_lists_28 G n F M v1 v2 v3 v4 = some M7 → ga_W X M7 129 [some (.inr (some 100)), some (.inl v1), none, some (.inl v3), none, none, none, none] [] → ga_W X M 28 [some (.inr (some 100)), some (.inl v1), some (.inl v2), some (.inl v3), some (.inl v4), none, none, none] [] := by
    intro F
    induction F with
    | zero =>
      intro M v1 v2 v3 v4 M7 hf kx
      cases hf
    | succ F ih =>
      intro M v1 v2 v3 v4 M7 hf kx
      rw [l_X6_lists_28] at hf
      refine ga_il4 C eX6_lists_28 ?_
      refine ga_al0 C eX6_lists_30 ?_
      refine ga_getR C hK eX6_lists_31 lRX6_41 rfl rfl ?_
      refine ga_il2 C eX6_lists_34 ?_
      obtain ⟨g8, hf⟩ := gg_some hf
      refine ga_iald C hK eX6_lists_35 rfl (by decide) g8 ?_
      refine ga_al0 C eX6_lists_36 ?_
      refine ga_getR C hK eX6_lists_37 lRX6_35 rfl rfl ?_
      refine ga_il2 C eX6_lists_40 ?_
      refine ga_iald C hK eX6_lists_41 rfl (by decide) g8 ?_
      refine ga_isub C eX6_lists_42 ?_
      obtain ⟨g9, hf⟩ := gg_some hf
      obtain ⟨g10, hf⟩ := gg_some hf
      refine ga_icmp_gt C eX6_lists_43 g9 g10 (fun hc => ?_) (fun hc => ?_)
      · rw [if_pos hc] at hf
        refine ga_push C eX6_lists_46 ?_
        refine ga_is5 C eX6_lists_47 ?_
        have L49 : ∀ (F : Nat) (M : gaM) (v1 : Int) (v2 : Int) (v3 : Int) (v4 : Int) (v5 : Int) (M11 : gaM), l_X6_lists_49 G n F M v1 v2 v3 v4 v5 = some M11 → ga_W X M11 123 [some (.inr (some 100)), some (.inl v1), some (.inl v2), some (.inl v3), some (.inl v4), none, none, none] [] → ga_W X M 49 [some (.inr (some 100)), some (.inl v1), some (.inl v2), some (.inl v3), some (.inl v4), some (.inl v5), none, none] [] := by
          intro F
          induction F with
          | zero =>
            intro M v1 v2 v3 v4 v5 M11 hf kx
            cases hf
          | succ F ih =>
            intro M v1 v2 v3 v4 v5 M11 hf kx
            rw [l_X6_lists_49] at hf
            refine ga_il5 C eX6_lists_49 ?_
            refine ga_al0 C eX6_lists_51 ?_
            refine ga_getI C hK eX6_lists_52 lRX6_102 rfl rfl ?_
            obtain ⟨g12, hf⟩ := gg_some hf
            obtain ⟨g13, hf⟩ := gg_some hf
            refine ga_icmp_ge C eX6_lists_55 g12 g13 (fun hc => ?_) (fun hc => ?_)
            · rw [if_pos hc] at hf
              refine ga_al0 C eX6_lists_58 ?_
              refine ga_il2 C eX6_lists_59 ?_
              refine ga_il5 C eX6_lists_60 ?_
              refine ga_il4 C eX6_lists_62 ?_
              obtain ⟨r14, c14, hf⟩ := gb_some hf
              refine ga_cV3 C hK eX6_lists_64 nRX6_163 mX6_hasRoom vX6_hasRoom rfl (t_X6_hasRoom hg c14) (by decide) (Nat.le_of_ble_eq_true rfl) ?_
              obtain ⟨g15, hf⟩ := gg_some hf
              obtain ⟨M16, hx, hf⟩ := gb_some hf
              have kx16 : ga_W X M16 117 [some (.inr (some 100)), some (.inl v1), some (.inl v2), some (.inl v3), some (.inl v4), some (.inl v5), none, none] [] := by
                refine ga_ii5 C eX6_lists_117 ?_
                refine ga_goto C eX6_lists_120 ?_
                refine ga_forget [true, true, true, true, true, true, false, false] rfl ?_
                exact ih _ _ _ _ _ _ _ hf kx
              clear hf
              have hf := hx
              refine ga_if_ne C eX6_lists_67 g15 (fun hc => ?_) (fun hc => ?_)
              · rw [if_pos hc] at hf
                refine ga_goto C eX6_lists_70 ?_
                cases hf
                exact ga_forget [true, true, true, true, true, true, false, false] rfl kx16
              · rw [if_neg hc] at hf
                refine ga_al0 C eX6_lists_73 ?_
                refine ga_getR C hK eX6_lists_74 lRX6_96 rfl rfl ?_
                refine ga_il3 C eX6_lists_77 ?_
                refine ga_al0 C eX6_lists_78 ?_
                refine ga_getR C hK eX6_lists_79 lRX6_93 rfl rfl ?_
                refine ga_il1 C eX6_lists_82 ?_
                obtain ⟨g17, hf⟩ := gg_some hf
                refine ga_iald C hK eX6_lists_83 rfl (by decide) g17 ?_
                refine ga_iadd C eX6_lists_84 ?_
                refine ga_push C eX6_lists_85 ?_
                refine ga_al0 C eX6_lists_88 ?_
                refine ga_il2 C eX6_lists_89 ?_
                refine ga_il5 C eX6_lists_90 ?_
                refine ga_il4 C eX6_lists_92 ?_
                obtain ⟨r18, c18, hf⟩ := gb_some hf
                refine ga_cV3 C hK eX6_lists_94 nRX6_166 mX6_costOf vX6_costOf rfl (t_X6_costOf hg c18) (by decide) (Nat.le_of_ble_eq_true rfl) ?_
                refine ga_imul C eX6_lists_97 ?_
                refine ga_push C eX6_lists_98 ?_
                refine ga_il4 C eX6_lists_99 ?_
                refine ga_imul C eX6_lists_101 ?_
                refine ga_iadd C eX6_lists_102 ?_
                refine ga_il5 C eX6_lists_103 ?_
                refine ga_iadd C eX6_lists_105 ?_
                obtain ⟨g20, hf⟩ := gg_some hf
                obtain ⟨M19, q19, hf⟩ := gB_some hf
                refine ga_iast C hK eX6_lists_106 rfl (by decide) g20 q19 ?_
                refine ga_al0 C eX6_lists_107 ?_
                refine ga_getR C hK eX6_lists_108 lRX6_93 rfl rfl ?_
                refine ga_il1 C eX6_lists_111 ?_
                refine ga_dup2 C eX6_lists_112 ?_
                refine ga_iald C hK eX6_lists_113 rfl (by decide) g17 ?_
                refine ga_push C eX6_lists_114 ?_
                refine ga_iadd C eX6_lists_115 ?_
                obtain ⟨M21, q21, hf⟩ := gB_some hf
                refine ga_iast C hK eX6_lists_116 rfl (by decide) g17 q21 ?_
                cases hf
                exact ga_forget [true, true, true, true, true, true, false, false] rfl kx16
            · rw [if_neg hc] at hf
              cases hf
              exact ga_forget [true, true, true, true, true, false, false, false] rfl kx
        obtain ⟨M11, hl11, hf⟩ := gb_some hf
        refine ga_forget [true, true, true, true, true, true, false, false] rfl ?_
        refine L49 G _ _ _ _ _ _ _ hl11 ?_
        refine ga_ii4 C eX6_lists_123 ?_
        refine ga_goto C eX6_lists_126 ?_
        refine ga_forget [true, true, true, true, true, false, false, false] rfl ?_
        exact ih _ _ _ _ _ _ hf kx
      · rw [if_neg hc] at hf
        cases hf
        exact ga_forget [true, true, false, true, false, false, false, false] rfl kx
  obtain ⟨M7, hl7, hf⟩ := gb_some hf
  refine ga_forget [true, true, true, true, true, false, false, false] rfl ?_
  refine L28 G _ _ _ _ _ _ hl7 ?_
  refine ga_al0 C eX6_lists_129 ?_
  refine ga_getR C hK eX6_lists_130 lRX6_93 rfl rfl ?_
  refine ga_il1 C eX6_lists_133 ?_
  refine ga_iald C hK eX6_lists_134 rfl (by decide) g2 ?_
  refine ga_push C eX6_lists_135 ?_
  obtain ⟨g23, hf⟩ := gg_some hf
  refine ga_idiv C eX6_lists_136 g23 (by decide) ?_
  refine ga_is4 C eX6_lists_137 ?_
  have L139 : ∀ (F : Nat) (M : gaM) (v1 : Int) (v3 : Int) (v4 : Int) (M24 : gaM), l_X6_lists_139 G n F M v1 v3 v4 = some M24 → ga_W X M24 255 [none, none, none, none, none, none, none, none] [] → ga_W X M 139 [some (.inr (some 100)), some (.inl v1), none, some (.inl v3), some (.inl v4), none, none, none] [] := by
    intro F
    induction F with
    | zero =>
      intro M v1 v3 v4 M24 hf kx
      cases hf
    | succ F ih =>
      intro M v1 v3 v4 M24 hf kx
      rw [l_X6_lists_139] at hf
      refine ga_il4 C eX6_lists_139 ?_
      obtain ⟨g25, hf⟩ := gg_some hf
      refine ga_if_le C eX6_lists_141 g25 (fun hc => ?_) (fun hc => ?_)
      · rw [if_pos hc] at hf
        refine ga_il4 C eX6_lists_144 ?_
        refine ga_is5 C eX6_lists_146 ?_
        have L148 : ∀ (F : Nat) (M : gaM) (v1 : Int) (v3 : Int) (v4 : Int) (v5 : Int) (M26 : gaM), l_X6_lists_148 G n F M v1 v3 v4 v5 = some M26 → ga_W X M26 246 [some (.inr (some 100)), some (.inl v1), none, some (.inl v3), some (.inl v4), none, none, none] [] → ga_W X M 148 [some (.inr (some 100)), some (.inl v1), none, some (.inl v3), some (.inl v4), some (.inl v5), none, none] [] := by
          intro F
          induction F with
          | zero =>
            intro M v1 v3 v4 v5 M26 hf kx
            cases hf
          | succ F ih =>
            intro M v1 v3 v4 v5 M26 hf kx
            rw [l_X6_lists_148] at hf
            refine ga_il5 C eX6_lists_148 ?_
            refine ga_al0 C eX6_lists_150 ?_
            refine ga_getR C hK eX6_lists_151 lRX6_93 rfl rfl ?_
            refine ga_il1 C eX6_lists_154 ?_
            obtain ⟨g27, hf⟩ := gg_some hf
            refine ga_iald C hK eX6_lists_155 rfl (by decide) g27 ?_
            obtain ⟨g28, hf⟩ := gg_some hf
            obtain ⟨g29, hf⟩ := gg_some hf
            refine ga_icmp_ge C eX6_lists_156 g28 g29 (fun hc => ?_) (fun hc => ?_)
            · rw [if_pos hc] at hf
              refine ga_al0 C eX6_lists_159 ?_
              refine ga_getR C hK eX6_lists_160 lRX6_96 rfl rfl ?_
              refine ga_il3 C eX6_lists_163 ?_
              refine ga_il5 C eX6_lists_164 ?_
              refine ga_iadd C eX6_lists_166 ?_
              obtain ⟨g30, hf⟩ := gg_some hf
              refine ga_iald C hK eX6_lists_167 rfl (by decide) g30 ?_
              refine ga_is6 C eX6_lists_168 ?_
              refine ga_il5 C eX6_lists_170 ?_
              refine ga_is7 C eX6_lists_172 ?_
              have L174 : ∀ (F : Nat) (M : gaM) (v1 : Int) (v3 : Int) (v4 : Int) (v5 : Int) (v6 : Int) (v7 : Int) (M31 : gaM) (x7_31 : Int), l_X6_lists_174 G n F M v1 v3 v4 v5 v6 v7 = some (M31, x7_31) → ga_W X M31 229 [some (.inr (some 100)), some (.inl v1), none, some (.inl v3), some (.inl v4), some (.inl v5), some (.inl v6), some (.inl x7_31)] [] → ga_W X M 174 [some (.inr (some 100)), some (.inl v1), none, some (.inl v3), some (.inl v4), some (.inl v5), some (.inl v6), some (.inl v7)] [] := by
                intro F
                induction F with
                | zero =>
                  intro M v1 v3 v4 v5 v6 v7 M31 x7_31 hf kx
                  cases hf
                | succ F ih =>
                  intro M v1 v3 v4 v5 v6 v7 M31 x7_31 hf kx
                  rw [l_X6_lists_174] at hf
                  refine ga_il7 C eX6_lists_174 ?_
                  refine ga_il4 C eX6_lists_176 ?_
                  obtain ⟨g32, hf⟩ := gg_some hf
                  obtain ⟨g33, hf⟩ := gg_some hf
                  refine ga_icmp_lt C eX6_lists_178 g32 g33 (fun hc => ?_) (fun hc => ?_)
                  · rw [if_pos hc] at hf
                    refine ga_al0 C eX6_lists_181 ?_
                    refine ga_getR C hK eX6_lists_182 lRX6_96 rfl rfl ?_
                    refine ga_il3 C eX6_lists_185 ?_
                    refine ga_il7 C eX6_lists_186 ?_
                    refine ga_iadd C eX6_lists_188 ?_
                    refine ga_il4 C eX6_lists_189 ?_
                    refine ga_isub C eX6_lists_191 ?_
                    obtain ⟨g34, hf⟩ := gg_some hf
                    refine ga_iald C hK eX6_lists_192 rfl (by decide) g34 ?_
                    refine ga_il6 C eX6_lists_193 ?_
                    obtain ⟨g35, hf⟩ := gg_some hf
                    obtain ⟨g36, hf⟩ := gg_some hf
                    refine ga_icmp_le C eX6_lists_195 g35 g36 (fun hc => ?_) (fun hc => ?_)
                    · rw [if_pos hc] at hf
                      refine ga_al0 C eX6_lists_198 ?_
                      refine ga_getR C hK eX6_lists_199 lRX6_96 rfl rfl ?_
                      refine ga_il3 C eX6_lists_202 ?_
                      refine ga_il7 C eX6_lists_203 ?_
                      refine ga_iadd C eX6_lists_205 ?_
                      refine ga_al0 C eX6_lists_206 ?_
                      refine ga_getR C hK eX6_lists_207 lRX6_96 rfl rfl ?_
                      refine ga_il3 C eX6_lists_210 ?_
                      refine ga_il7 C eX6_lists_211 ?_
                      refine ga_iadd C eX6_lists_213 ?_
                      refine ga_il4 C eX6_lists_214 ?_
                      refine ga_isub C eX6_lists_216 ?_
                      refine ga_iald C hK eX6_lists_217 rfl (by decide) g34 ?_
                      obtain ⟨g38, hf⟩ := gg_some hf
                      obtain ⟨M37, q37, hf⟩ := gB_some hf
                      refine ga_iast C hK eX6_lists_218 rfl (by decide) g38 q37 ?_
                      refine ga_il7 C eX6_lists_219 ?_
                      refine ga_il4 C eX6_lists_221 ?_
                      refine ga_isub C eX6_lists_223 ?_
                      refine ga_is7 C eX6_lists_224 ?_
                      refine ga_goto C eX6_lists_226 ?_
                      refine ga_forget [true, true, false, true, true, true, true, true] rfl ?_
                      exact ih _ _ _ _ _ _ _ _ _ hf kx
                    · rw [if_neg hc] at hf
                      cases hf
                      exact ga_forget [true, true, false, true, true, true, true, true] rfl kx
                  · rw [if_neg hc] at hf
                    cases hf
                    exact ga_forget [true, true, false, true, true, true, true, true] rfl kx
              obtain ⟨M31, x7_31, hl31, hf⟩ := gb2_some hf
              refine ga_forget [true, true, false, true, true, true, true, true] rfl ?_
              refine L174 G _ _ _ _ _ _ _ _ _ hl31 ?_
              refine ga_al0 C eX6_lists_229 ?_
              refine ga_getR C hK eX6_lists_230 lRX6_96 rfl rfl ?_
              refine ga_il3 C eX6_lists_233 ?_
              refine ga_il7 C eX6_lists_234 ?_
              refine ga_iadd C eX6_lists_236 ?_
              refine ga_il6 C eX6_lists_237 ?_
              obtain ⟨g40, hf⟩ := gg_some hf
              obtain ⟨M39, q39, hf⟩ := gB_some hf
              refine ga_iast C hK eX6_lists_239 rfl (by decide) g40 q39 ?_
              refine ga_ii5 C eX6_lists_240 ?_
              refine ga_goto C eX6_lists_243 ?_
              refine ga_forget [true, true, false, true, true, true, false, false] rfl ?_
              exact ih _ _ _ _ _ _ hf kx
            · rw [if_neg hc] at hf
              cases hf
              exact ga_forget [true, true, false, true, true, false, false, false] rfl kx
        obtain ⟨M26, hl26, hf⟩ := gb_some hf
        refine ga_forget [true, true, false, true, true, true, false, false] rfl ?_
        refine L148 G _ _ _ _ _ _ hl26 ?_
        refine ga_il4 C eX6_lists_246 ?_
        refine ga_push C eX6_lists_248 ?_
        obtain ⟨g42, hf⟩ := gg_some hf
        refine ga_idiv C eX6_lists_249 g42 (by decide) ?_
        refine ga_is4 C eX6_lists_250 ?_
        refine ga_goto C eX6_lists_252 ?_
        refine ga_forget [true, true, false, true, true, false, false, false] rfl ?_
        exact ih _ _ _ _ _ hf kx
      · rw [if_neg hc] at hf
        cases hf
        exact ga_forget [false, false, false, false, false, false, false, false] rfl kx
  obtain ⟨M24, hl24, hf⟩ := gb_some hf
  refine ga_forget [true, true, false, true, true, false, false, false] rfl ?_
  refine L139 G _ _ _ _ _ hl24 ?_
  exact ga_vretW C T eX6_lists_255 hf


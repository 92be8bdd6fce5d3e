set_option maxRecDepth 20000 in
set_option maxHeartbeats 4000000 in
theorem t_X3_add {n e cp G : Nat} (hg : gh n e cp) {M Mz : gaM} {w1 : Nat} (hw1 : gk n e cp w1 = some (.inr (.inl (4, gr_X4)))) (hf : f_X3_add G n M w1 = some Mz) : ga_Met yX3_add cX3_add 6 none 1 (gk n e cp) M [.inr (some 7), .inr (some w1), .inr (some 6)] none Mz := by
  refine ga_met (by decide) rfl (Nat.le_of_ble_eq_true rfl) ?_
  intro X C hK T
  show ga_W X M 0 [some (.inr (some 7)), some (.inr (some w1)), some (.inr (some 6)), none, none, none] []
  unfold f_X3_add at hf
  refine ga_al0 C eX3_add_0 ?_
  refine ga_getI C hK eX3_add_1 lRX3_29 rfl rfl ?_
  refine ga_push C eX3_add_4 ?_
  obtain ⟨g1, hf⟩ := gg_some hf
  refine ga_icmp_lt C eX3_add_5 g1 (by decide) (fun hc => ?_) (fun hc => ?_)
  · rw [if_pos hc] at hf
    exact ga_vretW C T eX3_add_8 hf
  · rw [if_neg hc] at hf
    refine ga_al0 C eX3_add_9 ?_
    refine ga_getI C hK eX3_add_10 lRX3_29 rfl rfl ?_
    refine ga_is3 C eX3_add_13 ?_
    refine ga_al0 C eX3_add_14 ?_
    refine ga_dup C eX3_add_15 ?_
    refine ga_getI C hK eX3_add_16 lRX3_29 rfl rfl ?_
    refine ga_push C eX3_add_19 ?_
    refine ga_iadd C eX3_add_20 ?_
    obtain ⟨M2, q2, hf⟩ := gB_some hf
    refine ga_putI C hK eX3_add_21 lRX3_29 (by intro q hq; cases hq; exact ⟨rfl, rfl⟩) rfl rfl q2 ?_
    refine ga_al0 C eX3_add_24 ?_
    refine ga_getR C hK eX3_add_25 lRX3_22 rfl rfl ?_
    refine ga_il3 C eX3_add_28 ?_
    refine ga_push C eX3_add_29 ?_
    obtain ⟨g4, hf⟩ := gg_some hf
    obtain ⟨M3, q3, hf⟩ := gB_some hf
    refine ga_iast C hK eX3_add_30 rfl (by decide) g4 q3 ?_
    refine ga_al0 C eX3_add_31 ?_
    refine ga_getR C hK eX3_add_32 lRX3_26 rfl rfl ?_
    refine ga_il3 C eX3_add_35 ?_
    refine ga_al1 C eX3_add_36 ?_
    refine ga_getI C hK eX3_add_37 lRX3_33 hw1 rfl ?_
    obtain ⟨M5, q5, hf⟩ := gB_some hf
    refine ga_iast C hK eX3_add_40 rfl (by decide) g4 q5 ?_
    refine ga_push C eX3_add_41 ?_
    refine ga_is4 C eX3_add_42 ?_
    have L44 : ∀ (F : Nat) (M : gaM) (v3 : Int) (v4 : Int) (M6 : gaM), l_X3_add_44 G n F M v3 v4 = some M6 → ga_W X M6 113 [none, none, none, none, none, none] [] → ga_W X M 44 [some (.inr (some 7)), none, some (.inr (some 6)), some (.inl v3), some (.inl v4), none] [] := by
      intro F
      induction F with
      | zero =>
        intro M v3 v4 M6 hf kx
        cases hf
      | succ F ih =>
        intro M v3 v4 M6 hf kx
        rw [l_X3_add_44] at hf
        refine ga_il4 C eX3_add_44 ?_
        refine ga_al2 C eX3_add_46 ?_
        refine ga_getI C hK eX3_add_47 lRX3_38 rfl rfl ?_
        obtain ⟨g7, hf⟩ := gg_some hf
        obtain ⟨g8, hf⟩ := gg_some hf
        refine ga_icmp_ge C eX3_add_50 g7 g8 (fun hc => ?_) (fun hc => ?_)
        · rw [if_pos hc] at hf
          refine ga_al2 C eX3_add_53 ?_
          refine ga_getI C hK eX3_add_54 lRX3_43 rfl rfl ?_
          refine ga_is5 C eX3_add_57 ?_
          have L59 : ∀ (F : Nat) (M : gaM) (v3 : Int) (v4 : Int) (v5 : Int) (M9 : gaM), l_X3_add_59 G n F M v3 v4 v5 = some M9 → ga_W X M9 107 [some (.inr (some 7)), none, some (.inr (some 6)), some (.inl v3), some (.inl v4), none] [] → ga_W X M 59 [some (.inr (some 7)), none, some (.inr (some 6)), some (.inl v3), some (.inl v4), some (.inl v5)] [] := by
            intro F
            induction F with
            | zero =>
              intro M v3 v4 v5 M9 hf kx
              cases hf
            | succ F ih =>
              intro M v3 v4 v5 M9 hf kx
              rw [l_X3_add_59] at hf
              refine ga_il5 C eX3_add_59 ?_
              refine ga_al2 C eX3_add_61 ?_
              refine ga_getI C hK eX3_add_62 lRX3_46 rfl rfl ?_
              obtain ⟨g10, hf⟩ := gg_some hf
              obtain ⟨g11, hf⟩ := gg_some hf
              refine ga_icmp_gt C eX3_add_65 g10 g11 (fun hc => ?_) (fun hc => ?_)
              · rw [if_pos hc] at hf
                refine ga_al2 C eX3_add_68 ?_
                refine ga_getR C hK eX3_add_69 lRX3_49 rfl rfl ?_
                refine ga_il4 C eX3_add_72 ?_
                obtain ⟨g12, hf⟩ := gg_some hf
                refine ga_aald C hK eX3_add_74 rfl (Or.inl rfl) (by decide) g12 ?_
                refine ga_il5 C eX3_add_75 ?_
                obtain ⟨g13, hf⟩ := gg_some hf
                refine ga_iald C hK eX3_add_77 (gk_r60 g12) (by decide) g13 ?_
                refine ga_push C eX3_add_78 ?_
                obtain ⟨g14, hf⟩ := gg_some hf
                obtain ⟨M15, hx, hf⟩ := gb_some hf
                have kx15 : ga_W X M15 101 [some (.inr (some 7)), none, some (.inr (some 6)), some (.inl v3), some (.inl v4), some (.inl v5)] [] := by
                  refine ga_ii5 C eX3_add_101 ?_
                  refine ga_goto C eX3_add_104 ?_
                  refine ga_forget [true, false, true, true, true, true] rfl ?_
                  exact ih _ _ _ _ _ hf kx
                clear hf
                have hf := hx
                refine ga_icmp_eq C eX3_add_79 g14 (by decide) (fun hc => ?_) (fun hc => ?_)
                · rw [if_pos hc] at hf
                  cases hf
                  exact ga_forget [true, false, true, true, true, true] rfl kx15
                · rw [if_neg hc] at hf
                  refine ga_al0 C eX3_add_82 ?_
                  refine ga_il3 C eX3_add_83 ?_
                  refine ga_il4 C eX3_add_84 ?_
                  refine ga_il5 C eX3_add_86 ?_
                  refine ga_al2 C eX3_add_88 ?_
                  refine ga_getR C hK eX3_add_89 lRX3_49 rfl rfl ?_
                  refine ga_il4 C eX3_add_92 ?_
                  refine ga_aald C hK eX3_add_94 rfl (Or.inl rfl) (by decide) g12 ?_
                  refine ga_il5 C eX3_add_95 ?_
                  refine ga_iald C hK eX3_add_97 (gk_r60 g12) (by decide) g13 ?_
                  obtain ⟨M16, c16, hf⟩ := gb_some hf
                  refine ga_cV4 C hK eX3_add_98 nRX3_52 mX3_keep vX3_keep rfl (t_X3_keep hg c16) (by decide) (Nat.le_of_ble_eq_true rfl) ?_
                  cases hf
                  exact ga_forget [true, false, true, true, true, true] rfl kx15
              · rw [if_neg hc] at hf
                cases hf
                exact ga_forget [true, false, true, true, true, false] rfl kx
          obtain ⟨M9, hl9, hf⟩ := gb_some hf
          refine ga_forget [true, false, true, true, true, true] rfl ?_
          refine L59 G _ _ _ _ _ hl9 ?_
          refine ga_ii4 C eX3_add_107 ?_
          refine ga_goto C eX3_add_110 ?_
          refine ga_forget [true, false, true, true, true, false] rfl ?_
          exact ih _ _ _ _ hf kx
        · rw [if_neg hc] at hf
          cases hf
          exact ga_forget [false, false, false, false, false, false] rfl kx
    obtain ⟨M6, hl6, hf⟩ := gb_some hf
    refine ga_forget [true, false, true, true, true, false] rfl ?_
    refine L44 G _ _ _ _ hl6 ?_
    exact ga_vretW C T eX3_add_113 hf

set_option maxRecDepth 20000 in
set_option maxHeartbeats 4000000 in
theorem t_X3_cheapestFrom {n e cp G : Nat} (hg : gh n e cp) {M : gaM} {v1 : Int} {rz : Int}  (hf : f_X3_cheapestFrom G n M v1 = some rz) : ga_Met yX3_cheapestFrom cX3_cheapestFrom 4 (some .int) 0 (gk n e cp) M [.inr (some 7), .inl v1] (some (.inl rz)) M := by
  refine ga_met (by decide) rfl (Nat.le_of_ble_eq_true rfl) ?_
  intro X C hK T
  show ga_W X M 0 [some (.inr (some 7)), some (.inl v1), none, none] []
  unfold f_X3_cheapestFrom at hf
  refine ga_push C eX3_cheapestFrom_0 ?_
  refine ga_is2 C eX3_cheapestFrom_1 ?_
  refine ga_il1 C eX3_cheapestFrom_2 ?_
  refine ga_is3 C eX3_cheapestFrom_3 ?_
  have L4 : ∀ (F : Nat) (v2 : Int) (v3 : Int) (x2_1 : Int), l_X3_cheapestFrom_4 G n M F v2 v3 = some x2_1 → ga_W X M 29 [none, none, some (.inl x2_1), none] [] → ga_W X M 4 [some (.inr (some 7)), none, some (.inl v2), some (.inl v3)] [] := by
    intro F
    induction F with
    | zero =>
      intro v2 v3 x2_1 hf kx
      cases hf
    | succ F ih =>
      intro v2 v3 x2_1 hf kx
      rw [l_X3_cheapestFrom_4] at hf
      refine ga_il3 C eX3_cheapestFrom_4 ?_
      refine ga_al0 C eX3_cheapestFrom_5 ?_
      refine ga_getI C hK eX3_cheapestFrom_6 lRX3_29 rfl rfl ?_
      obtain ⟨g2, hf⟩ := gg_some hf
      obtain ⟨g3, hf⟩ := gg_some hf
      refine ga_icmp_ge C eX3_cheapestFrom_9 g2 g3 (fun hc => ?_) (fun hc => ?_)
      · rw [if_pos hc] at hf
        refine ga_il2 C eX3_cheapestFrom_12 ?_
        refine ga_al0 C eX3_cheapestFrom_13 ?_
        refine ga_getR C hK eX3_cheapestFrom_14 lRX3_19 rfl rfl ?_
        refine ga_il3 C eX3_cheapestFrom_17 ?_
        obtain ⟨g4, hf⟩ := gg_some hf
        refine ga_aald C hK eX3_cheapestFrom_18 rfl (Or.inl rfl) (by decide) g4 ?_
        refine ga_push C eX3_cheapestFrom_19 ?_
        obtain ⟨g5, hf⟩ := gg_some hf
        refine ga_iald C hK eX3_cheapestFrom_20 (gk_r78 g4) (by decide) g5 ?_
        refine ga_iadd C eX3_cheapestFrom_21 ?_
        refine ga_is2 C eX3_cheapestFrom_22 ?_
        refine ga_ii3 C eX3_cheapestFrom_23 ?_
        refine ga_goto C eX3_cheapestFrom_26 ?_
        refine ga_forget [true, false, true, true] rfl ?_
        exact ih _ _ _ hf kx
      · rw [if_neg hc] at hf
        cases hf
        exact ga_forget [false, false, true, false] rfl kx
  obtain ⟨x2_1, hl1, hf⟩ := gb_some hf
  refine ga_forget [true, false, true, true] rfl ?_
  refine L4 G _ _ _ hl1 ?_
  refine ga_il2 C eX3_cheapestFrom_29 ?_
  exact ga_iret0 C T eX3_cheapestFrom_30 hf

set_option maxRecDepth 20000 in
set_option maxHeartbeats 4000000 in
theorem t_X3_search {n e cp G : Nat} (hg : gh n e cp) : ∀ (d : Nat) (M : gaM) (v2 : Int) (v3 : Int) (v4 : Int) (rz : Int) (Mz : gaM), f_X3_search G n d M v2 v3 v4 = some (rz, Mz) → ga_Met yX3_search cX3_search 11 (some .int) (1 + d) (gk n e cp) M [.inr (some 7), .inr (some 1), .inl v2, .inl v3, .inl v4] (some (.inl rz)) Mz := by
  intro d
  induction d with
  | zero =>
    intro M v2 v3 v4 rz Mz hf
    cases hf
  | succ d ihd =>
    intro M v2 v3 v4 rz Mz hf
    refine ga_met (by decide) rfl (Nat.le_of_ble_eq_true rfl) ?_
    intro X C hK T
    show ga_W X M 0 [some (.inr (some 7)), some (.inr (some 1)), some (.inl v2), some (.inl v3), some (.inl v4), none, none, none, none, none, none] []
    rw [f_X3_search] at hf
    refine ga_il2 C eX3_search_0 ?_
    refine ga_al0 C eX3_search_1 ?_
    refine ga_getI C hK eX3_search_2 lRX3_29 rfl rfl ?_
    obtain ⟨g1, hf⟩ := gg_some hf
    obtain ⟨g2, hf⟩ := gg_some hf
    refine ga_icmp_lt C eX3_search_5 g1 g2 (fun hc => ?_) (fun hc => ?_)
    · rw [if_pos hc] at hf
      refine ga_il3 C eX3_search_8 ?_
      exact ga_iretW C T eX3_search_9 hf
    · rw [if_neg hc] at hf
      refine ga_il4 C eX3_search_10 ?_
      refine ga_is5 C eX3_search_12 ?_
      refine ga_al0 C eX3_search_14 ?_
      refine ga_il2 C eX3_search_15 ?_
      refine ga_push C eX3_search_16 ?_
      refine ga_iadd C eX3_search_17 ?_
      obtain ⟨r3, c3, hf⟩ := gb_some hf
      refine ga_cV1 C hK eX3_search_18 nRX3_60 mX3_cheapestFrom vX3_cheapestFrom rfl (t_X3_cheapestFrom hg c3) (by omega) (Nat.le_of_ble_eq_true rfl) ?_
      refine ga_is6 C eX3_search_21 ?_
      refine ga_push C eX3_search_23 ?_
      refine ga_is7 C eX3_search_24 ?_
      have L26 : ∀ (F : Nat) (M : gaM) (v2 : Int) (v3 : Int) (v5 : Int) (v6 : Int) (v7 : Int), l_X3_search_26 (f_X3_search G n d) G n F M v2 v3 v5 v6 v7 = some (rz, Mz) → ga_W X M 26 [some (.inr (some 7)), some (.inr (some 1)), some (.inl v2), some (.inl v3), none, some (.inl v5), some (.inl v6), some (.inl v7), none, none, none] [] := by
        intro F
        induction F with
        | zero =>
          intro M v2 v3 v5 v6 v7 hf
          cases hf
        | succ F ih =>
          intro M v2 v3 v5 v6 v7 hf
          rw [l_X3_search_26] at hf
          refine ga_il7 C eX3_search_26 ?_
          refine ga_al0 C eX3_search_28 ?_
          refine ga_getR C hK eX3_search_29 lRX3_22 rfl rfl ?_
          refine ga_il2 C eX3_search_32 ?_
          obtain ⟨g4, hf⟩ := gg_some hf
          refine ga_iald C hK eX3_search_33 rfl (by decide) g4 ?_
          obtain ⟨g5, hf⟩ := gg_some hf
          obtain ⟨g6, hf⟩ := gg_some hf
          refine ga_icmp_ge C eX3_search_34 g5 g6 (fun hc => ?_) (fun hc => ?_)
          · rw [if_pos hc] at hf
            refine ga_il3 C eX3_search_37 ?_
            refine ga_al0 C eX3_search_38 ?_
            refine ga_getR C hK eX3_search_39 lRX3_19 rfl rfl ?_
            refine ga_il2 C eX3_search_42 ?_
            refine ga_aald C hK eX3_search_43 rfl (Or.inl rfl) (by decide) g4 ?_
            refine ga_il7 C eX3_search_44 ?_
            obtain ⟨g7, hf⟩ := gg_some hf
            refine ga_iald C hK eX3_search_46 (gk_r78 g4) (by decide) g7 ?_
            refine ga_iadd C eX3_search_47 ?_
            refine ga_is8 C eX3_search_48 ?_
            refine ga_il5 C eX3_search_50 ?_
            refine ga_push C eX3_search_52 ?_
            obtain ⟨g8, hf⟩ := gg_some hf
            refine ga_icmp_eq C eX3_search_53 g8 (by decide) (fun hc => ?_) (fun hc => ?_)
            · rw [if_pos hc] at hf
              refine ga_al0 C eX3_search_69 ?_
              refine ga_getR C hK eX3_search_70 lRX3_13 rfl rfl ?_
              refine ga_il2 C eX3_search_73 ?_
              refine ga_aald C hK eX3_search_74 rfl (Or.inl rfl) (by decide) g4 ?_
              refine ga_il7 C eX3_search_75 ?_
              refine ga_iald C hK eX3_search_77 (gk_r70 g4) (by decide) g7 ?_
              refine ga_is9 C eX3_search_78 ?_
              refine ga_al0 C eX3_search_80 ?_
              refine ga_getR C hK eX3_search_81 lRX3_16 rfl rfl ?_
              refine ga_il2 C eX3_search_84 ?_
              refine ga_aald C hK eX3_search_85 rfl (Or.inl rfl) (by decide) g4 ?_
              refine ga_il7 C eX3_search_86 ?_
              refine ga_iald C hK eX3_search_88 (gk_r74 g4) (by decide) g7 ?_
              refine ga_is10 C eX3_search_89 ?_
              refine ga_al1 C eX3_search_91 ?_
              refine ga_il9 C eX3_search_92 ?_
              refine ga_il10 C eX3_search_94 ?_
              refine ga_al0 C eX3_search_96 ?_
              refine ga_getR C hK eX3_search_97 lRX3_26 rfl rfl ?_
              refine ga_il2 C eX3_search_100 ?_
              refine ga_iald C hK eX3_search_101 rfl (by decide) g4 ?_
              obtain ⟨r9, c9, hf⟩ := gb_some hf
              refine ga_cV3 C hK eX3_search_102 nRX3_64 mX2_fits vX2_fits rfl (t_X2_fits hg c9) (by omega) (Nat.le_of_ble_eq_true rfl) ?_
              obtain ⟨g10, hf⟩ := gg_some hf
              obtain ⟨M11, x5_11, hx, hf⟩ := gb2_some hf
              have kx11 : ga_W X M11 150 [some (.inr (some 7)), some (.inr (some 1)), some (.inl v2), some (.inl v3), none, some (.inl x5_11), some (.inl v6), some (.inl v7), none, none, none] [] := by
                refine ga_ii7 C eX3_search_150 ?_
                refine ga_goto C eX3_search_153 ?_
                refine ga_forget [true, true, true, true, false, true, true, true, false, false, false] rfl ?_
                exact ih _ _ _ _ _ _ hf
              clear hf
              have hf := hx
              refine ga_if_eq C eX3_search_105 g10 (fun hc => ?_) (fun hc => ?_)
              · rw [if_pos hc] at hf
                cases hf
                exact ga_forget [true, true, true, true, false, true, true, true, false, false, false] rfl kx11
              · rw [if_neg hc] at hf
                refine ga_al1 C eX3_search_108 ?_
                refine ga_il9 C eX3_search_109 ?_
                refine ga_il10 C eX3_search_111 ?_
                refine ga_al0 C eX3_search_113 ?_
                refine ga_getR C hK eX3_search_114 lRX3_26 rfl rfl ?_
                refine ga_il2 C eX3_search_117 ?_
                refine ga_iald C hK eX3_search_118 rfl (by decide) g4 ?_
                obtain ⟨M12, c12, hf⟩ := gb_some hf
                refine ga_cV3 C hK eX3_search_119 nRX3_70 mX2_take vX2_take rfl (t_X2_take hg c12) (by omega) (Nat.le_of_ble_eq_true rfl) ?_
                refine ga_al0 C eX3_search_122 ?_
                refine ga_al1 C eX3_search_123 ?_
                refine ga_il2 C eX3_search_124 ?_
                refine ga_push C eX3_search_125 ?_
                refine ga_iadd C eX3_search_126 ?_
                refine ga_il8 C eX3_search_127 ?_
                refine ga_il5 C eX3_search_129 ?_
                obtain ⟨r13, M13, c13, hf⟩ := gb2_some hf
                refine ga_cS5 C hK eX3_search_131 nRX3_56 mX3_search sX3_search (ihd _ _ _ _ _ _ c13) (by omega) (Nat.le_of_ble_eq_true rfl) ?_
                refine ga_is5 C eX3_search_134 ?_
                refine ga_al1 C eX3_search_136 ?_
                refine ga_il9 C eX3_search_137 ?_
                refine ga_il10 C eX3_search_139 ?_
                refine ga_al0 C eX3_search_141 ?_
                refine ga_getR C hK eX3_search_142 lRX3_26 rfl rfl ?_
                refine ga_il2 C eX3_search_145 ?_
                refine ga_iald C hK eX3_search_146 rfl (by decide) g4 ?_
                obtain ⟨M14, c14, hf⟩ := gb_some hf
                refine ga_cV3 C hK eX3_search_147 nRX3_74 mX2_giveBack vX2_giveBack rfl (t_X2_giveBack hg c14) (by omega) (Nat.le_of_ble_eq_true rfl) ?_
                cases hf
                exact ga_forget [true, true, true, true, false, true, true, true, false, false, false] rfl kx11
            · rw [if_neg hc] at hf
              refine ga_il8 C eX3_search_56 ?_
              refine ga_il6 C eX3_search_58 ?_
              refine ga_iadd C eX3_search_60 ?_
              refine ga_il5 C eX3_search_61 ?_
              obtain ⟨g15, hf⟩ := gg_some hf
              refine ga_icmp_lt C eX3_search_63 g15 g8 (fun hc => ?_) (fun hc => ?_)
              · rw [if_pos hc] at hf
                refine ga_il5 C eX3_search_66 ?_
                exact ga_iretW C T eX3_search_68 hf
              · rw [if_neg hc] at hf
                refine ga_al0 C eX3_search_69 ?_
                refine ga_getR C hK eX3_search_70 lRX3_13 rfl rfl ?_
                refine ga_il2 C eX3_search_73 ?_
                refine ga_aald C hK eX3_search_74 rfl (Or.inl rfl) (by decide) g4 ?_
                refine ga_il7 C eX3_search_75 ?_
                refine ga_iald C hK eX3_search_77 (gk_r70 g4) (by decide) g7 ?_
                refine ga_is9 C eX3_search_78 ?_
                refine ga_al0 C eX3_search_80 ?_
                refine ga_getR C hK eX3_search_81 lRX3_16 rfl rfl ?_
                refine ga_il2 C eX3_search_84 ?_
                refine ga_aald C hK eX3_search_85 rfl (Or.inl rfl) (by decide) g4 ?_
                refine ga_il7 C eX3_search_86 ?_
                refine ga_iald C hK eX3_search_88 (gk_r74 g4) (by decide) g7 ?_
                refine ga_is10 C eX3_search_89 ?_
                refine ga_al1 C eX3_search_91 ?_
                refine ga_il9 C eX3_search_92 ?_
                refine ga_il10 C eX3_search_94 ?_
                refine ga_al0 C eX3_search_96 ?_
                refine ga_getR C hK eX3_search_97 lRX3_26 rfl rfl ?_
                refine ga_il2 C eX3_search_100 ?_
                refine ga_iald C hK eX3_search_101 rfl (by decide) g4 ?_
                obtain ⟨r16, c16, hf⟩ := gb_some hf
                refine ga_cV3 C hK eX3_search_102 nRX3_64 mX2_fits vX2_fits rfl (t_X2_fits hg c16) (by omega) (Nat.le_of_ble_eq_true rfl) ?_
                obtain ⟨g17, hf⟩ := gg_some hf
                obtain ⟨M18, x5_18, hx, hf⟩ := gb2_some hf
                have kx18 : ga_W X M18 150 [some (.inr (some 7)), some (.inr (some 1)), some (.inl v2), some (.inl v3), none, some (.inl x5_18), some (.inl v6), some (.inl v7), none, none, none] [] := by
                  refine ga_ii7 C eX3_search_150 ?_
                  refine ga_goto C eX3_search_153 ?_
                  refine ga_forget [true, true, true, true, false, true, true, true, false, false, false] rfl ?_
                  exact ih _ _ _ _ _ _ hf
                clear hf
                have hf := hx
                refine ga_if_eq C eX3_search_105 g17 (fun hc => ?_) (fun hc => ?_)
                · rw [if_pos hc] at hf
                  cases hf
                  exact ga_forget [true, true, true, true, false, true, true, true, false, false, false] rfl kx18
                · rw [if_neg hc] at hf
                  refine ga_al1 C eX3_search_108 ?_
                  refine ga_il9 C eX3_search_109 ?_
                  refine ga_il10 C eX3_search_111 ?_
                  refine ga_al0 C eX3_search_113 ?_
                  refine ga_getR C hK eX3_search_114 lRX3_26 rfl rfl ?_
                  refine ga_il2 C eX3_search_117 ?_
                  refine ga_iald C hK eX3_search_118 rfl (by decide) g4 ?_
                  obtain ⟨M19, c19, hf⟩ := gb_some hf
                  refine ga_cV3 C hK eX3_search_119 nRX3_70 mX2_take vX2_take rfl (t_X2_take hg c19) (by omega) (Nat.le_of_ble_eq_true rfl) ?_
                  refine ga_al0 C eX3_search_122 ?_
                  refine ga_al1 C eX3_search_123 ?_
                  refine ga_il2 C eX3_search_124 ?_
                  refine ga_push C eX3_search_125 ?_
                  refine ga_iadd C eX3_search_126 ?_
                  refine ga_il8 C eX3_search_127 ?_
                  refine ga_il5 C eX3_search_129 ?_
                  obtain ⟨r20, M20, c20, hf⟩ := gb2_some hf
                  refine ga_cS5 C hK eX3_search_131 nRX3_56 mX3_search sX3_search (ihd _ _ _ _ _ _ c20) (by omega) (Nat.le_of_ble_eq_true rfl) ?_
                  refine ga_is5 C eX3_search_134 ?_
                  refine ga_al1 C eX3_search_136 ?_
                  refine ga_il9 C eX3_search_137 ?_
                  refine ga_il10 C eX3_search_139 ?_
                  refine ga_al0 C eX3_search_141 ?_
                  refine ga_getR C hK eX3_search_142 lRX3_26 rfl rfl ?_
                  refine ga_il2 C eX3_search_145 ?_
                  refine ga_iald C hK eX3_search_146 rfl (by decide) g4 ?_
                  obtain ⟨M21, c21, hf⟩ := gb_some hf
                  refine ga_cV3 C hK eX3_search_147 nRX3_74 mX2_giveBack vX2_giveBack rfl (t_X2_giveBack hg c21) (by omega) (Nat.le_of_ble_eq_true rfl) ?_
                  cases hf
                  exact ga_forget [true, true, true, true, false, true, true, true, false, false, false] rfl kx18
          · rw [if_neg hc] at hf
            refine ga_il5 C eX3_search_156 ?_
            exact ga_iretW C T eX3_search_158 hf
      refine ga_forget [true, true, true, true, false, true, true, true, false, false, false] rfl ?_
      exact L26 G _ _ _ _ _ _ hf

set_option maxRecDepth 20000 in
set_option maxHeartbeats 4000000 in
theorem t_X3_least {n e cp G : Nat} (hg : gh n e cp) {M Mz : gaM} {rz : Int}  (hf : f_X3_least G n M = some (rz, Mz)) : ga_Met yX3_least cX3_least 3 (some .int) 7 (gk n e cp) M [.inr (some 7), .inr (some 1)] (some (.inl rz)) Mz := by
  refine ga_met (by decide) rfl (Nat.le_of_ble_eq_true rfl) ?_
  intro X C hK T
  show ga_W X M 0 [some (.inr (some 7)), some (.inr (some 1)), none] []
  unfold f_X3_least at hf
  refine ga_push C eX3_least_0 ?_
  refine ga_is2 C eX3_least_1 ?_
  have L2 : ∀ (F : Nat) (M : gaM) (v2 : Int), l_X3_least_2 G n F M v2 = some (rz, Mz) → ga_W X M 2 [some (.inr (some 7)), some (.inr (some 1)), some (.inl v2)] [] := by
    intro F
    induction F with
    | zero =>
      intro M v2 hf
      cases hf
    | succ F ih =>
      intro M v2 hf
      rw [l_X3_least_2] at hf
      refine ga_il2 C eX3_least_2 ?_
      refine ga_al0 C eX3_least_3 ?_
      refine ga_getI C hK eX3_least_4 lRX3_29 rfl rfl ?_
      obtain ⟨g1, hf⟩ := gg_some hf
      obtain ⟨g2, hf⟩ := gg_some hf
      refine ga_icmp_ge C eX3_least_7 g1 g2 (fun hc => ?_) (fun hc => ?_)
      · rw [if_pos hc] at hf
        refine ga_al0 C eX3_least_10 ?_
        refine ga_getR C hK eX3_least_11 lRX3_22 rfl rfl ?_
        refine ga_il2 C eX3_least_14 ?_
        obtain ⟨g3, hf⟩ := gg_some hf
        refine ga_iald C hK eX3_least_15 rfl (by decide) g3 ?_
        obtain ⟨g4, hf⟩ := gg_some hf
        refine ga_if_ne C eX3_least_16 g4 (fun hc => ?_) (fun hc => ?_)
        · rw [if_pos hc] at hf
          refine ga_push C eX3_least_19 ?_
          exact ga_iretW C T eX3_least_20 hf
        · rw [if_neg hc] at hf
          refine ga_ii2 C eX3_least_21 ?_
          refine ga_goto C eX3_least_24 ?_
          refine ga_forget [true, true, true] rfl ?_
          exact ih _ _ hf
      · rw [if_neg hc] at hf
        refine ga_al0 C eX3_least_27 ?_
        refine ga_al1 C eX3_least_28 ?_
        refine ga_push C eX3_least_29 ?_
        refine ga_push C eX3_least_30 ?_
        refine ga_push C eX3_least_31 ?_
        obtain ⟨r5, M5, c5, hf⟩ := gb2_some hf
        refine ga_cS5 C hK eX3_least_32 nRX3_56 mX3_search sX3_search (t_X3_search hg 5 _ _ _ _ _ _ c5) (by decide) (Nat.le_of_ble_eq_true rfl) ?_
        exact ga_iretW C T eX3_least_35 hf
  refine ga_forget [true, true, true] rfl ?_
  exact L2 G _ _ hf

set_option maxRecDepth 20000 in
set_option maxHeartbeats 4000000 in
theorem t_X5_within {n e cp G : Nat} (hg : gh n e cp) {M : gaM} {v0 v1 v2 : Int} {rz : Int}  (hf : f_X5_within G n M v0 v1 v2 = some rz) : ga_Met yX5_within cX5_within 3 (some .boolean) 0 (gk n e cp) M [.inl v0, .inl v1, .inl v2] (some (.inl rz)) M := by
  refine ga_met (by decide) rfl (Nat.le_of_ble_eq_true rfl) ?_
  intro X C hK T
  show ga_W X M 0 [some (.inl v0), some (.inl v1), some (.inl v2)] []
  unfold f_X5_within at hf
  refine ga_il0 C eX5_within_0 ?_
  refine ga_il1 C eX5_within_1 ?_
  obtain ⟨g1, hf⟩ := gg_some hf
  obtain ⟨g2, hf⟩ := gg_some hf
  refine ga_icmp_lt C eX5_within_2 g1 g2 (fun hc => ?_) (fun hc => ?_)
  · rw [if_pos hc] at hf
    refine ga_il0 C eX5_within_5 ?_
    refine ga_il2 C eX5_within_6 ?_
    obtain ⟨g3, hf⟩ := gg_some hf
    refine ga_icmp_gt C eX5_within_7 g1 g3 (fun hc => ?_) (fun hc => ?_)
    · rw [if_pos hc] at hf
      refine ga_push C eX5_within_10 ?_
      refine ga_goto C eX5_within_11 ?_
      exact ga_zret0 C T eX5_within_15 (by decide) hf
    · rw [if_neg hc] at hf
      refine ga_push C eX5_within_14 ?_
      exact ga_zret0 C T eX5_within_15 (by decide) hf
  · rw [if_neg hc] at hf
    refine ga_push C eX5_within_14 ?_
    exact ga_zret0 C T eX5_within_15 (by decide) hf

set_option maxRecDepth 20000 in
set_option maxHeartbeats 4000000 in
theorem t_X5_troubleOfPlace {n e cp G : Nat} (hg : gh n e cp) {M : gaM} {v1 : Int} {rz : Int}  (hf : f_X5_troubleOfPlace G n M v1 = some rz) : ga_Met yX5_troubleOfPlace cX5_troubleOfPlace 2 (some .int) 1 (gk n e cp) M [.inr (some 0), .inl v1] (some (.inl rz)) M := by
  refine ga_met (by decide) rfl (Nat.le_of_ble_eq_true rfl) ?_
  intro X C hK T
  show ga_W X M 0 [some (.inr (some 0)), some (.inl v1)] []
  unfold f_X5_troubleOfPlace at hf
  refine ga_il1 C eX5_troubleOfPlace_0 ?_
  refine ga_push C eX5_troubleOfPlace_1 ?_
  refine ga_push C eX5_troubleOfPlace_2 ?_
  obtain ⟨r1, c1, hf⟩ := gb_some hf
  refine ga_cS3 C hK eX5_troubleOfPlace_4 nRX5_71 mX5_within sX5_within (t_X5_within hg c1) (by decide) (Nat.le_of_ble_eq_true rfl) ?_
  obtain ⟨g2, hf⟩ := gg_some hf
  refine ga_if_ne C eX5_troubleOfPlace_7 g2 (fun hc => ?_) (fun hc => ?_)
  · rw [if_pos hc] at hf
    refine ga_push C eX5_troubleOfPlace_10 ?_
    exact ga_iret0 C T eX5_troubleOfPlace_11 hf
  · rw [if_neg hc] at hf
    refine ga_al0 C eX5_troubleOfPlace_12 ?_
    refine ga_getR C hK eX5_troubleOfPlace_13 lRX5_10 rfl rfl ?_
    refine ga_getI C hK eX5_troubleOfPlace_16 lRX5_75 rfl rfl ?_
    refine ga_push C eX5_troubleOfPlace_19 ?_
    obtain ⟨g3, hf⟩ := gg_some hf
    refine ga_icmp_ge C eX5_troubleOfPlace_20 g3 (by decide) (fun hc => ?_) (fun hc => ?_)
    · rw [if_pos hc] at hf
      refine ga_push C eX5_troubleOfPlace_23 ?_
      refine ga_goto C eX5_troubleOfPlace_24 ?_
      exact ga_iret0 C T eX5_troubleOfPlace_28 hf
    · rw [if_neg hc] at hf
      refine ga_push C eX5_troubleOfPlace_27 ?_
      exact ga_iret0 C T eX5_troubleOfPlace_28 hf

set_option maxRecDepth 20000 in
set_option maxHeartbeats 4000000 in
theorem t_X5_place {n e cp G : Nat} (hg : gh n e cp) {M Mz : gaM} {v1 : Int} {rz : Int}  (hf : f_X5_place G n M v1 = some (rz, Mz)) : ga_Met yX5_place cX5_place 2 (some .int) 2 (gk n e cp) M [.inr (some 0), .inl v1] (some (.inl rz)) Mz := by
  refine ga_met (by decide) rfl (Nat.le_of_ble_eq_true rfl) ?_
  intro X C hK T
  show ga_W X M 0 [some (.inr (some 0)), some (.inl v1)] []
  unfold f_X5_place at hf
  refine ga_al0 C eX5_place_0 ?_
  refine ga_al0 C eX5_place_1 ?_
  refine ga_il1 C eX5_place_2 ?_
  obtain ⟨r1, c1, hf⟩ := gb_some hf
  refine ga_cV1 C hK eX5_place_3 nRX5_64 mX5_troubleOfPlace vX5_troubleOfPlace rfl (t_X5_troubleOfPlace hg c1) (by decide) (Nat.le_of_ble_eq_true rfl) ?_
  obtain ⟨M2, q2, hf⟩ := gB_some hf
  refine ga_putI C hK eX5_place_6 lRX5_61 (by intro q hq; cases hq; exact ⟨rfl, rfl⟩) rfl rfl q2 ?_
  refine ga_al0 C eX5_place_9 ?_
  refine ga_getI C hK eX5_place_10 lRX5_61 rfl rfl ?_
  obtain ⟨g3, hf⟩ := gg_some hf
  refine ga_if_ne C eX5_place_13 g3 (fun hc => ?_) (fun hc => ?_)
  · rw [if_pos hc] at hf
    refine ga_al0 C eX5_place_16 ?_
    refine ga_getR C hK eX5_place_17 lRX5_10 rfl rfl ?_
    refine ga_il1 C eX5_place_20 ?_
    obtain ⟨r4, M4, c4, hf⟩ := gb2_some hf
    refine ga_cV1 C hK eX5_place_21 nRX5_68 mX2_add vX2_add rfl (t_X2_add hg c4) (by decide) (Nat.le_of_ble_eq_true rfl) ?_
    refine ga_goto C eX5_place_24 ?_
    exact ga_iretW C T eX5_place_28 hf
  · rw [if_neg hc] at hf
    refine ga_push C eX5_place_27 ?_
    exact ga_iretW C T eX5_place_28 hf

set_option maxRecDepth 20000 in
set_option maxHeartbeats 4000000 in
theorem t_X5_troubleOfFare {n e cp G : Nat} (hg : gh n e cp) {M : gaM} {v1 v2 v3 : Int} {rz : Int}  (hf : f_X5_troubleOfFare G n M v1 v2 v3 = some rz) : ga_Met yX5_troubleOfFare cX5_troubleOfFare 4 (some .int) 1 (gk n e cp) M [.inr (some 0), .inl v1, .inl v2, .inl v3] (some (.inl rz)) M := by
  refine ga_met (by decide) rfl (Nat.le_of_ble_eq_true rfl) ?_
  intro X C hK T
  show ga_W X M 0 [some (.inr (some 0)), some (.inl v1), some (.inl v2), some (.inl v3)] []
  unfold f_X5_troubleOfFare at hf
  refine ga_al0 C eX5_troubleOfFare_0 ?_
  refine ga_getR C hK eX5_troubleOfFare_1 lRX5_10 rfl rfl ?_
  refine ga_il1 C eX5_troubleOfFare_4 ?_
  obtain ⟨r1, c1, hf⟩ := gb_some hf
  refine ga_cV1 C hK eX5_troubleOfFare_5 nRX5_86 mX2_has vX2_has rfl (t_X2_has hg c1) (by decide) (Nat.le_of_ble_eq_true rfl) ?_
  obtain ⟨g2, hf⟩ := gg_some hf
  refine ga_if_eq C eX5_troubleOfFare_8 g2 (fun hc => ?_) (fun hc => ?_)
  · rw [if_pos hc] at hf
    refine ga_push C eX5_troubleOfFare_27 ?_
    exact ga_iret0 C T eX5_troubleOfFare_28 hf
  · rw [if_neg hc] at hf
    refine ga_al0 C eX5_troubleOfFare_11 ?_
    refine ga_getR C hK eX5_troubleOfFare_12 lRX5_10 rfl rfl ?_
    refine ga_il2 C eX5_troubleOfFare_15 ?_
    obtain ⟨r3, c3, hf⟩ := gb_some hf
    refine ga_cV1 C hK eX5_troubleOfFare_16 nRX5_86 mX2_has vX2_has rfl (t_X2_has hg c3) (by decide) (Nat.le_of_ble_eq_true rfl) ?_
    obtain ⟨g4, hf⟩ := gg_some hf
    refine ga_if_eq C eX5_troubleOfFare_19 g4 (fun hc => ?_) (fun hc => ?_)
    · rw [if_pos hc] at hf
      refine ga_push C eX5_troubleOfFare_27 ?_
      exact ga_iret0 C T eX5_troubleOfFare_28 hf
    · rw [if_neg hc] at hf
      refine ga_il1 C eX5_troubleOfFare_22 ?_
      refine ga_il2 C eX5_troubleOfFare_23 ?_
      obtain ⟨g5, hf⟩ := gg_some hf
      obtain ⟨g6, hf⟩ := gg_some hf
      refine ga_icmp_ne C eX5_troubleOfFare_24 g5 g6 (fun hc => ?_) (fun hc => ?_)
      · rw [if_pos hc] at hf
        refine ga_push C eX5_troubleOfFare_27 ?_
        exact ga_iret0 C T eX5_troubleOfFare_28 hf
      · rw [if_neg hc] at hf
        refine ga_il3 C eX5_troubleOfFare_29 ?_
        refine ga_push C eX5_troubleOfFare_30 ?_
        refine ga_push C eX5_troubleOfFare_31 ?_
        obtain ⟨r7, c7, hf⟩ := gb_some hf
        refine ga_cS3 C hK eX5_troubleOfFare_33 nRX5_71 mX5_within sX5_within (t_X5_within hg c7) (by decide) (Nat.le_of_ble_eq_true rfl) ?_
        obtain ⟨g8, hf⟩ := gg_some hf
        refine ga_if_eq C eX5_troubleOfFare_36 g8 (fun hc => ?_) (fun hc => ?_)
        · rw [if_pos hc] at hf
          refine ga_push C eX5_troubleOfFare_43 ?_
          exact ga_iret0 C T eX5_troubleOfFare_44 hf
        · rw [if_neg hc] at hf
          refine ga_push C eX5_troubleOfFare_39 ?_
          refine ga_goto C eX5_troubleOfFare_40 ?_
          exact ga_iret0 C T eX5_troubleOfFare_44 hf

set_option maxRecDepth 20000 in
set_option maxHeartbeats 4000000 in
theorem t_X5_fare {n e cp G : Nat} (hg : gh n e cp) {M Mz : gaM} {v1 v2 v3 : Int} {rz : Int}  (hf : f_X5_fare G n M v1 v2 v3 = some (rz, Mz)) : ga_Met yX5_fare cX5_fare 4 (some .boolean) 2 (gk n e cp) M [.inr (some 0), .inl v1, .inl v2, .inl v3] (some (.inl rz)) Mz := by
  refine ga_met (by decide) rfl (Nat.le_of_ble_eq_true rfl) ?_
  intro X C hK T
  show ga_W X M 0 [some (.inr (some 0)), some (.inl v1), some (.inl v2), some (.inl v3)] []
  unfold f_X5_fare at hf
  refine ga_al0 C eX5_fare_0 ?_
  refine ga_al0 C eX5_fare_1 ?_
  refine ga_il1 C eX5_fare_2 ?_
  refine ga_il2 C eX5_fare_3 ?_
  refine ga_il3 C eX5_fare_4 ?_
  obtain ⟨r1, c1, hf⟩ := gb_some hf
  refine ga_cV3 C hK eX5_fare_5 nRX5_78 mX5_troubleOfFare vX5_troubleOfFare rfl (t_X5_troubleOfFare hg c1) (by decide) (Nat.le_of_ble_eq_true rfl) ?_
  obtain ⟨M2, q2, hf⟩ := gB_some hf
  refine ga_putI C hK eX5_fare_8 lRX5_61 (by intro q hq; cases hq; exact ⟨rfl, rfl⟩) rfl rfl q2 ?_
  refine ga_al0 C eX5_fare_11 ?_
  refine ga_getI C hK eX5_fare_12 lRX5_61 rfl rfl ?_
  obtain ⟨g3, hf⟩ := gg_some hf
  refine ga_if_eq C eX5_fare_15 g3 (fun hc => ?_) (fun hc => ?_)
  · rw [if_pos hc] at hf
    refine ga_al0 C eX5_fare_20 ?_
    refine ga_getR C hK eX5_fare_21 lRX5_10 rfl rfl ?_
    refine ga_getR C hK eX5_fare_24 lRX5_82 rfl rfl ?_
    refine ga_il1 C eX5_fare_27 ?_
    obtain ⟨g4, hf⟩ := gg_some hf
    refine ga_aald C hK eX5_fare_28 rfl (Or.inl rfl) (by decide) g4 ?_
    refine ga_il2 C eX5_fare_29 ?_
    refine ga_il3 C eX5_fare_30 ?_
    obtain ⟨g6, hf⟩ := gg_some hf
    obtain ⟨M5, q5, hf⟩ := gB_some hf
    refine ga_iast C hK eX5_fare_31 (gk_r10 g4) (by decide) g6 q5 ?_
    refine ga_al0 C eX5_fare_32 ?_
    refine ga_getR C hK eX5_fare_33 lRX5_10 rfl rfl ?_
    refine ga_getR C hK eX5_fare_36 lRX5_82 rfl rfl ?_
    refine ga_il2 C eX5_fare_39 ?_
    refine ga_aald C hK eX5_fare_40 rfl (Or.inl rfl) (by decide) g6 ?_
    refine ga_il1 C eX5_fare_41 ?_
    refine ga_il3 C eX5_fare_42 ?_
    obtain ⟨M7, q7, hf⟩ := gB_some hf
    refine ga_iast C hK eX5_fare_43 (gk_r10 g6) (by decide) g4 q7 ?_
    refine ga_push C eX5_fare_44 ?_
    exact ga_zretW C T eX5_fare_45 (by decide) hf
  · rw [if_neg hc] at hf
    refine ga_push C eX5_fare_18 ?_
    exact ga_zretW C T eX5_fare_19 (by decide) hf

set_option maxRecDepth 20000 in
set_option maxHeartbeats 4000000 in
theorem t_X5_troubleOfGreen {n e cp G : Nat} (hg : gh n e cp) {M : gaM} {v1 v2 v3 v4 : Int} {rz : Int}  (hf : f_X5_troubleOfGreen G n M v1 v2 v3 v4 = some rz) : ga_Met yX5_troubleOfGreen cX5_troubleOfGreen 6 (some .int) 1 (gk n e cp) M [.inr (some 0), .inl v1, .inl v2, .inl v3, .inl v4] (some (.inl rz)) M := by
  refine ga_met (by decide) rfl (Nat.le_of_ble_eq_true rfl) ?_
  intro X C hK T
  show ga_W X M 0 [some (.inr (some 0)), some (.inl v1), some (.inl v2), some (.inl v3), some (.inl v4), none] []
  unfold f_X5_troubleOfGreen at hf
  refine ga_al0 C eX5_troubleOfGreen_0 ?_
  refine ga_getR C hK eX5_troubleOfGreen_1 lRX5_10 rfl rfl ?_
  refine ga_il1 C eX5_troubleOfGreen_4 ?_
  obtain ⟨r1, c1, hf⟩ := gb_some hf
  refine ga_cV1 C hK eX5_troubleOfGreen_5 nRX5_86 mX2_has vX2_has rfl (t_X2_has hg c1) (by decide) (Nat.le_of_ble_eq_true rfl) ?_
  obtain ⟨g2, hf⟩ := gg_some hf
  refine ga_if_ne C eX5_troubleOfGreen_8 g2 (fun hc => ?_) (fun hc => ?_)
  · rw [if_pos hc] at hf
    refine ga_push C eX5_troubleOfGreen_11 ?_
    exact ga_iret0 C T eX5_troubleOfGreen_12 hf
  · rw [if_neg hc] at hf
    refine ga_il2 C eX5_troubleOfGreen_13 ?_
    refine ga_al0 C eX5_troubleOfGreen_14 ?_
    refine ga_getI C hK eX5_troubleOfGreen_15 lRX5_58 rfl rfl ?_
    refine ga_push C eX5_troubleOfGreen_18 ?_
    obtain ⟨r3, c3, hf⟩ := gb_some hf
    refine ga_cS3 C hK eX5_troubleOfGreen_21 nRX5_71 mX5_within sX5_within (t_X5_within hg c3) (by decide) (Nat.le_of_ble_eq_true rfl) ?_
    obtain ⟨g4, hf⟩ := gg_some hf
    obtain ⟨s0_5, hx, hf⟩ := gb_some hf
    have kx5 : ga_W X M 43 [none, none, none, none, some (.inl v4), none] [.inl s0_5] := by
      refine ga_is5 C eX5_troubleOfGreen_43 ?_
      refine ga_il5 C eX5_troubleOfGreen_45 ?_
      obtain ⟨g8, hf⟩ := gg_some hf
      refine ga_if_eq C eX5_troubleOfGreen_47 g8 (fun hc => ?_) (fun hc => ?_)
      · rw [if_pos hc] at hf
        refine ga_push C eX5_troubleOfGreen_66 ?_
        exact ga_iret0 C T eX5_troubleOfGreen_67 hf
      · rw [if_neg hc] at hf
        refine ga_il4 C eX5_troubleOfGreen_50 ?_
        refine ga_push C eX5_troubleOfGreen_52 ?_
        refine ga_push C eX5_troubleOfGreen_53 ?_
        obtain ⟨r9, c9, hf⟩ := gb_some hf
        refine ga_cS3 C hK eX5_troubleOfGreen_56 nRX5_71 mX5_within sX5_within (t_X5_within hg c9) (by decide) (Nat.le_of_ble_eq_true rfl) ?_
        obtain ⟨g10, hf⟩ := gg_some hf
        refine ga_if_eq C eX5_troubleOfGreen_59 g10 (fun hc => ?_) (fun hc => ?_)
        · rw [if_pos hc] at hf
          refine ga_push C eX5_troubleOfGreen_66 ?_
          exact ga_iret0 C T eX5_troubleOfGreen_67 hf
        · rw [if_neg hc] at hf
          refine ga_push C eX5_troubleOfGreen_62 ?_
          refine ga_goto C eX5_troubleOfGreen_63 ?_
          exact ga_iret0 C T eX5_troubleOfGreen_67 hf
    clear hf
    have hf := hx
    refine ga_if_eq C eX5_troubleOfGreen_24 g4 (fun hc => ?_) (fun hc => ?_)
    · rw [if_pos hc] at hf
      refine ga_push C eX5_troubleOfGreen_42 ?_
      cases hf
      exact ga_forget [false, false, false, false, true, false] rfl kx5
    · rw [if_neg hc] at hf
      refine ga_il3 C eX5_troubleOfGreen_27 ?_
      refine ga_il2 C eX5_troubleOfGreen_28 ?_
      refine ga_push C eX5_troubleOfGreen_29 ?_
      obtain ⟨r6, c6, hf⟩ := gb_some hf
      refine ga_cS3 C hK eX5_troubleOfGreen_32 nRX5_71 mX5_within sX5_within (t_X5_within hg c6) (by decide) (Nat.le_of_ble_eq_true rfl) ?_
      obtain ⟨g7, hf⟩ := gg_some hf
      refine ga_if_eq C eX5_troubleOfGreen_35 g7 (fun hc => ?_) (fun hc => ?_)
      · rw [if_pos hc] at hf
        refine ga_push C eX5_troubleOfGreen_42 ?_
        cases hf
        exact ga_forget [false, false, false, false, true, false] rfl kx5
      · rw [if_neg hc] at hf
        refine ga_push C eX5_troubleOfGreen_38 ?_
        refine ga_goto C eX5_troubleOfGreen_39 ?_
        cases hf
        exact ga_forget [false, false, false, false, true, false] rfl kx5

set_option maxRecDepth 20000 in
set_option maxHeartbeats 4000000 in
theorem t_X5_green {n e cp G : Nat} (hg : gh n e cp) {M Mz : gaM} {v1 v2 v3 v4 : Int} {rz : Int}  (hf : f_X5_green G n M v1 v2 v3 v4 = some (rz, Mz)) : ga_Met yX5_green cX5_green 6 (some .boolean) 2 (gk n e cp) M [.inr (some 0), .inl v1, .inl v2, .inl v3, .inl v4] (some (.inl rz)) Mz := by
  refine ga_met (by decide) rfl (Nat.le_of_ble_eq_true rfl) ?_
  intro X C hK T
  show ga_W X M 0 [some (.inr (some 0)), some (.inl v1), some (.inl v2), some (.inl v3), some (.inl v4), none] []
  unfold f_X5_green at hf
  refine ga_al0 C eX5_green_0 ?_
  refine ga_al0 C eX5_green_1 ?_
  refine ga_il1 C eX5_green_2 ?_
  refine ga_il2 C eX5_green_3 ?_
  refine ga_il3 C eX5_green_4 ?_
  refine ga_il4 C eX5_green_5 ?_
  obtain ⟨r1, c1, hf⟩ := gb_some hf
  refine ga_cV4 C hK eX5_green_7 nRX5_90 mX5_troubleOfGreen vX5_troubleOfGreen rfl (t_X5_troubleOfGreen hg c1) (by decide) (Nat.le_of_ble_eq_true rfl) ?_
  obtain ⟨M2, q2, hf⟩ := gB_some hf
  refine ga_putI C hK eX5_green_10 lRX5_61 (by intro q hq; cases hq; exact ⟨rfl, rfl⟩) rfl rfl q2 ?_
  refine ga_al0 C eX5_green_13 ?_
  refine ga_getI C hK eX5_green_14 lRX5_61 rfl rfl ?_
  obtain ⟨g3, hf⟩ := gg_some hf
  refine ga_if_eq C eX5_green_17 g3 (fun hc => ?_) (fun hc => ?_)
  · rw [if_pos hc] at hf
    refine ga_il2 C eX5_green_22 ?_
    refine ga_is5 C eX5_green_23 ?_
    have L25 : ∀ (F : Nat) (M : gaM) (v1 : Int) (v3 : Int) (v4 : Int) (v5 : Int) (M4 : gaM), l_X5_green_25 G n F M v1 v3 v4 v5 = some M4 → ga_W X M4 51 [none, none, none, none, none, none] [] → ga_W X M 25 [some (.inr (some 0)), some (.inl v1), none, some (.inl v3), some (.inl v4), some (.inl v5)] [] := by
      intro F
      induction F with
      | zero =>
        intro M v1 v3 v4 v5 M4 hf kx
        cases hf
      | succ F ih =>
        intro M v1 v3 v4 v5 M4 hf kx
        rw [l_X5_green_25] at hf
        refine ga_il5 C eX5_green_25 ?_
        refine ga_il3 C eX5_green_27 ?_
        obtain ⟨g5, hf⟩ := gg_some hf
        obtain ⟨g6, hf⟩ := gg_some hf
        refine ga_icmp_gt C eX5_green_28 g5 g6 (fun hc => ?_) (fun hc => ?_)
        · rw [if_pos hc] at hf
          refine ga_al0 C eX5_green_31 ?_
          refine ga_getR C hK eX5_green_32 lRX5_10 rfl rfl ?_
          refine ga_getR C hK eX5_green_35 lRX5_94 rfl rfl ?_
          refine ga_il1 C eX5_green_38 ?_
          obtain ⟨g7, hf⟩ := gg_some hf
          refine ga_aald C hK eX5_green_39 rfl (Or.inl rfl) (by decide) g7 ?_
          refine ga_il5 C eX5_green_40 ?_
          refine ga_il4 C eX5_green_42 ?_
          obtain ⟨g9, hf⟩ := gg_some hf
          obtain ⟨M8, q8, hf⟩ := gB_some hf
          refine ga_iast C hK eX5_green_44 (gk_r20 g7) (by decide) g9 q8 ?_
          refine ga_ii5 C eX5_green_45 ?_
          refine ga_goto C eX5_green_48 ?_
          refine ga_forget [true, true, false, true, true, true] rfl ?_
          exact ih _ _ _ _ _ _ hf kx
        · rw [if_neg hc] at hf
          cases hf
          exact ga_forget [false, false, false, false, false, false] rfl kx
    obtain ⟨M4, hl4, hf⟩ := gb_some hf
    refine ga_forget [true, true, false, true, true, true] rfl ?_
    refine L25 G _ _ _ _ _ _ hl4 ?_
    refine ga_push C eX5_green_51 ?_
    exact ga_zretW C T eX5_green_52 (by decide) hf
  · rw [if_neg hc] at hf
    refine ga_push C eX5_green_20 ?_
    exact ga_zretW C T eX5_green_21 (by decide) hf

set_option maxRecDepth 20000 in
set_option maxHeartbeats 4000000 in
theorem t_X5_told {n e cp G : Nat} (hg : gh n e cp) {M : gaM} {v1 v2 : Int} {rz : Int}  (hf : f_X5_told G n M v1 v2 = some rz) : ga_Met yX5_told cX5_told 3 (some .int) 1 (gk n e cp) M [.inr (some 0), .inl v1, .inl v2] (some (.inl rz)) M := by
  refine ga_met (by decide) rfl (Nat.le_of_ble_eq_true rfl) ?_
  intro X C hK T
  show ga_W X M 0 [some (.inr (some 0)), some (.inl v1), some (.inl v2)] []
  unfold f_X5_told at hf
  refine ga_al0 C eX5_told_0 ?_
  refine ga_getR C hK eX5_told_1 lRX5_10 rfl rfl ?_
  refine ga_il1 C eX5_told_4 ?_
  obtain ⟨r1, c1, hf⟩ := gb_some hf
  refine ga_cV1 C hK eX5_told_5 nRX5_86 mX2_has vX2_has rfl (t_X2_has hg c1) (by decide) (Nat.le_of_ble_eq_true rfl) ?_
  obtain ⟨g2, hf⟩ := gg_some hf
  refine ga_if_eq C eX5_told_8 g2 (fun hc => ?_) (fun hc => ?_)
  · rw [if_pos hc] at hf
    refine ga_push C eX5_told_22 ?_
    exact ga_iret0 C T eX5_told_23 hf
  · rw [if_neg hc] at hf
    refine ga_il2 C eX5_told_11 ?_
    refine ga_push C eX5_told_12 ?_
    refine ga_push C eX5_told_13 ?_
    obtain ⟨r3, c3, hf⟩ := gb_some hf
    refine ga_cS3 C hK eX5_told_16 nRX5_71 mX5_within sX5_within (t_X5_within hg c3) (by decide) (Nat.le_of_ble_eq_true rfl) ?_
    obtain ⟨g4, hf⟩ := gg_some hf
    refine ga_if_ne C eX5_told_19 g4 (fun hc => ?_) (fun hc => ?_)
    · rw [if_pos hc] at hf
      refine ga_push C eX5_told_22 ?_
      exact ga_iret0 C T eX5_told_23 hf
    · rw [if_neg hc] at hf
      refine ga_al0 C eX5_told_24 ?_
      refine ga_getR C hK eX5_told_25 lRX5_10 rfl rfl ?_
      refine ga_getR C hK eX5_told_28 lRX5_94 rfl rfl ?_
      refine ga_il1 C eX5_told_31 ?_
      obtain ⟨g5, hf⟩ := gg_some hf
      refine ga_aald C hK eX5_told_32 rfl (Or.inl rfl) (by decide) g5 ?_
      refine ga_il2 C eX5_told_33 ?_
      obtain ⟨g6, hf⟩ := gg_some hf
      refine ga_iald C hK eX5_told_34 (gk_r20 g5) (by decide) g6 ?_
      exact ga_iret0 C T eX5_told_35 hf

set_option maxRecDepth 20000 in
set_option maxHeartbeats 4000000 in
theorem t_X5_patience {n e cp G : Nat} (hg : gh n e cp) {M Mz : gaM} {v1 : Int} {rz : Int}  (hf : f_X5_patience G n M v1 = some (rz, Mz)) : ga_Met yX5_patience cX5_patience 2 (some .boolean) 1 (gk n e cp) M [.inr (some 0), .inl v1] (some (.inl rz)) Mz := by
  refine ga_met (by decide) rfl (Nat.le_of_ble_eq_true rfl) ?_
  intro X C hK T
  show ga_W X M 0 [some (.inr (some 0)), some (.inl v1)] []
  unfold f_X5_patience at hf
  refine ga_al0 C eX5_patience_0 ?_
  refine ga_il1 C eX5_patience_1 ?_
  refine ga_push C eX5_patience_2 ?_
  refine ga_push C eX5_patience_3 ?_
  obtain ⟨r1, c1, hf⟩ := gb_some hf
  refine ga_cS3 C hK eX5_patience_6 nRX5_71 mX5_within sX5_within (t_X5_within hg c1) (by decide) (Nat.le_of_ble_eq_true rfl) ?_
  obtain ⟨g2, hf⟩ := gg_some hf
  obtain ⟨s0_3, hx, hf⟩ := gb_some hf
  have kx3 : ga_W X M 17 [some (.inr (some 0)), some (.inl v1)] [.inl s0_3, .inr (some 0)] := by
    obtain ⟨M4, q4, hf⟩ := gB_some hf
    refine ga_putI C hK eX5_patience_17 lRX5_61 (by intro q hq; cases hq; exact ⟨rfl, rfl⟩) rfl rfl q4 ?_
    refine ga_al0 C eX5_patience_20 ?_
    refine ga_getI C hK eX5_patience_21 lRX5_61 rfl rfl ?_
    obtain ⟨g5, hf⟩ := gg_some hf
    refine ga_if_eq C eX5_patience_24 g5 (fun hc => ?_) (fun hc => ?_)
    · rw [if_pos hc] at hf
      refine ga_al0 C eX5_patience_29 ?_
      refine ga_il1 C eX5_patience_30 ?_
      obtain ⟨M6, q6, hf⟩ := gB_some hf
      refine ga_putI C hK eX5_patience_31 lRX5_54 (by intro q hq; cases hq; exact ⟨rfl, rfl⟩) rfl rfl q6 ?_
      refine ga_push C eX5_patience_34 ?_
      exact ga_zretW C T eX5_patience_35 (by decide) hf
    · rw [if_neg hc] at hf
      refine ga_push C eX5_patience_27 ?_
      exact ga_zretW C T eX5_patience_28 (by decide) hf
  clear hf
  have hf := hx
  refine ga_if_eq C eX5_patience_9 g2 (fun hc => ?_) (fun hc => ?_)
  · rw [if_pos hc] at hf
    refine ga_push C eX5_patience_16 ?_
    cases hf
    exact ga_forget [true, true] rfl kx3
  · rw [if_neg hc] at hf
    refine ga_push C eX5_patience_12 ?_
    refine ga_goto C eX5_patience_13 ?_
    cases hf
    exact ga_forget [true, true] rfl kx3

set_option maxRecDepth 20000 in
set_option maxHeartbeats 4000000 in
theorem t_X5_troubleOfJob {n e cp G : Nat} (hg : gh n e cp) {M : gaM} {v1 v2 v3 v4 v5 v6 : Int} {rz : Int}  (hf : f_X5_troubleOfJob G n M v1 v2 v3 v4 v5 v6 = some rz) : ga_Met yX5_troubleOfJob cX5_troubleOfJob 7 (some .int) 1 (gk n e cp) M [.inr (some 0), .inl v1, .inl v2, .inl v3, .inl v4, .inl v5, .inl v6] (some (.inl rz)) M := by
  refine ga_met (by decide) rfl (Nat.le_of_ble_eq_true rfl) ?_
  intro X C hK T
  show ga_W X M 0 [some (.inr (some 0)), some (.inl v1), some (.inl v2), some (.inl v3), some (.inl v4), some (.inl v5), some (.inl v6)] []
  unfold f_X5_troubleOfJob at hf
  refine ga_al0 C eX5_troubleOfJob_0 ?_
  refine ga_getR C hK eX5_troubleOfJob_1 lRX5_10 rfl rfl ?_
  refine ga_il2 C eX5_troubleOfJob_4 ?_
  obtain ⟨r1, c1, hf⟩ := gb_some hf
  refine ga_cV1 C hK eX5_troubleOfJob_5 nRX5_86 mX2_has vX2_has rfl (t_X2_has hg c1) (by decide) (Nat.le_of_ble_eq_true rfl) ?_
  obtain ⟨g2, hf⟩ := gg_some hf
  refine ga_if_ne C eX5_troubleOfJob_8 g2 (fun hc => ?_) (fun hc => ?_)
  · rw [if_pos hc] at hf
    refine ga_push C eX5_troubleOfJob_11 ?_
    exact ga_iret0 C T eX5_troubleOfJob_12 hf
  · rw [if_neg hc] at hf
    refine ga_il1 C eX5_troubleOfJob_13 ?_
    refine ga_push C eX5_troubleOfJob_14 ?_
    refine ga_push C eX5_troubleOfJob_15 ?_
    obtain ⟨r3, c3, hf⟩ := gb_some hf
    refine ga_cS3 C hK eX5_troubleOfJob_16 nRX5_71 mX5_within sX5_within (t_X5_within hg c3) (by decide) (Nat.le_of_ble_eq_true rfl) ?_
    obtain ⟨g4, hf⟩ := gg_some hf
    refine ga_if_eq C eX5_troubleOfJob_19 g4 (fun hc => ?_) (fun hc => ?_)
    · rw [if_pos hc] at hf
      refine ga_push C eX5_troubleOfJob_71 ?_
      exact ga_iret0 C T eX5_troubleOfJob_72 hf
    · rw [if_neg hc] at hf
      refine ga_il3 C eX5_troubleOfJob_22 ?_
      refine ga_push C eX5_troubleOfJob_23 ?_
      refine ga_push C eX5_troubleOfJob_24 ?_
      obtain ⟨r5, c5, hf⟩ := gb_some hf
      refine ga_cS3 C hK eX5_troubleOfJob_26 nRX5_71 mX5_within sX5_within (t_X5_within hg c5) (by decide) (Nat.le_of_ble_eq_true rfl) ?_
      obtain ⟨g6, hf⟩ := gg_some hf
      refine ga_if_eq C eX5_troubleOfJob_29 g6 (fun hc => ?_) (fun hc => ?_)
      · rw [if_pos hc] at hf
        refine ga_push C eX5_troubleOfJob_71 ?_
        exact ga_iret0 C T eX5_troubleOfJob_72 hf
      · rw [if_neg hc] at hf
        refine ga_il6 C eX5_troubleOfJob_32 ?_
        refine ga_push C eX5_troubleOfJob_34 ?_
        refine ga_push C eX5_troubleOfJob_35 ?_
        obtain ⟨r7, c7, hf⟩ := gb_some hf
        refine ga_cS3 C hK eX5_troubleOfJob_37 nRX5_71 mX5_within sX5_within (t_X5_within hg c7) (by decide) (Nat.le_of_ble_eq_true rfl) ?_
        obtain ⟨g8, hf⟩ := gg_some hf
        refine ga_if_eq C eX5_troubleOfJob_40 g8 (fun hc => ?_) (fun hc => ?_)
        · rw [if_pos hc] at hf
          refine ga_push C eX5_troubleOfJob_71 ?_
          exact ga_iret0 C T eX5_troubleOfJob_72 hf
        · rw [if_neg hc] at hf
          refine ga_il5 C eX5_troubleOfJob_43 ?_
          refine ga_push C eX5_troubleOfJob_45 ?_
          refine ga_push C eX5_troubleOfJob_46 ?_
          obtain ⟨r9, c9, hf⟩ := gb_some hf
          refine ga_cS3 C hK eX5_troubleOfJob_49 nRX5_71 mX5_within sX5_within (t_X5_within hg c9) (by decide) (Nat.le_of_ble_eq_true rfl) ?_
          obtain ⟨g10, hf⟩ := gg_some hf
          refine ga_if_eq C eX5_troubleOfJob_52 g10 (fun hc => ?_) (fun hc => ?_)
          · rw [if_pos hc] at hf
            refine ga_push C eX5_troubleOfJob_71 ?_
            exact ga_iret0 C T eX5_troubleOfJob_72 hf
          · rw [if_neg hc] at hf
            refine ga_il4 C eX5_troubleOfJob_55 ?_
            refine ga_al0 C eX5_troubleOfJob_57 ?_
            refine ga_getI C hK eX5_troubleOfJob_58 lRX5_58 rfl rfl ?_
            refine ga_il5 C eX5_troubleOfJob_61 ?_
            refine ga_il3 C eX5_troubleOfJob_63 ?_
            refine ga_isub C eX5_troubleOfJob_64 ?_
            obtain ⟨r11, c11, hf⟩ := gb_some hf
            refine ga_cS3 C hK eX5_troubleOfJob_65 nRX5_71 mX5_within sX5_within (t_X5_within hg c11) (by decide) (Nat.le_of_ble_eq_true rfl) ?_
            obtain ⟨g12, hf⟩ := gg_some hf
            refine ga_if_ne C eX5_troubleOfJob_68 g12 (fun hc => ?_) (fun hc => ?_)
            · rw [if_pos hc] at hf
              refine ga_push C eX5_troubleOfJob_71 ?_
              exact ga_iret0 C T eX5_troubleOfJob_72 hf
            · rw [if_neg hc] at hf
              refine ga_al0 C eX5_troubleOfJob_73 ?_
              refine ga_getR C hK eX5_troubleOfJob_74 lRX5_19 rfl rfl ?_
              obtain ⟨r13, c13, hf⟩ := gb_some hf
              refine ga_cV0 C hK eX5_troubleOfJob_77 nRX5_109 mJx4a65c_size_8abf5 vJx4a65c_size_8abf5 rfl (t_Jx4a65c_size_8abf5 hg c13) (by decide) (Nat.le_of_ble_eq_true rfl) ?_
              refine ga_push C eX5_troubleOfJob_80 ?_
              obtain ⟨g14, hf⟩ := gg_some hf
              refine ga_icmp_ge C eX5_troubleOfJob_82 g14 (by decide) (fun hc => ?_) (fun hc => ?_)
              · rw [if_pos hc] at hf
                refine ga_push C eX5_troubleOfJob_85 ?_
                refine ga_goto C eX5_troubleOfJob_86 ?_
                exact ga_iret0 C T eX5_troubleOfJob_90 hf
              · rw [if_neg hc] at hf
                refine ga_push C eX5_troubleOfJob_89 ?_
                exact ga_iret0 C T eX5_troubleOfJob_90 hf

set_option maxRecDepth 20000 in
set_option maxHeartbeats 4000000 in
theorem t_X5_isJob {n e cp G : Nat} (hg : gh n e cp) {M : gaM} {v1 : Int} {rz : Int}  (hf : f_X5_isJob G n M v1 = some rz) : ga_Met yX5_isJob cX5_isJob 2 (some .boolean) 1 (gk n e cp) M [.inr (some 0), .inl v1] (some (.inl rz)) M := by
  refine ga_met (by decide) rfl (Nat.le_of_ble_eq_true rfl) ?_
  intro X C hK T
  show ga_W X M 0 [some (.inr (some 0)), some (.inl v1)] []
  unfold f_X5_isJob at hf
  refine ga_il1 C eX5_isJob_0 ?_
  obtain ⟨g1, hf⟩ := gg_some hf
  refine ga_if_lt C eX5_isJob_1 g1 (fun hc => ?_) (fun hc => ?_)
  · rw [if_pos hc] at hf
    refine ga_il1 C eX5_isJob_4 ?_
    refine ga_al0 C eX5_isJob_5 ?_
    refine ga_getR C hK eX5_isJob_6 lRX5_19 rfl rfl ?_
    obtain ⟨r2, c2, hf⟩ := gb_some hf
    refine ga_cV0 C hK eX5_isJob_9 nRX5_109 mJx4a65c_size_8abf5 vJx4a65c_size_8abf5 rfl (t_Jx4a65c_size_8abf5 hg c2) (by decide) (Nat.le_of_ble_eq_true rfl) ?_
    obtain ⟨g3, hf⟩ := gg_some hf
    refine ga_icmp_ge C eX5_isJob_12 g1 g3 (fun hc => ?_) (fun hc => ?_)
    · rw [if_pos hc] at hf
      refine ga_push C eX5_isJob_15 ?_
      refine ga_goto C eX5_isJob_16 ?_
      exact ga_zret0 C T eX5_isJob_20 (by decide) hf
    · rw [if_neg hc] at hf
      refine ga_push C eX5_isJob_19 ?_
      exact ga_zret0 C T eX5_isJob_20 (by decide) hf
  · rw [if_neg hc] at hf
    refine ga_push C eX5_isJob_19 ?_
    exact ga_zret0 C T eX5_isJob_20 (by decide) hf

set_option maxRecDepth 20000 in
set_option maxHeartbeats 4000000 in
theorem t_X5_troubleOfDrop {n e cp G : Nat} (hg : gh n e cp) {M : gaM} {v1 : Int} {rz : Int}  (hf : f_X5_troubleOfDrop G n M v1 = some rz) : ga_Met yX5_troubleOfDrop cX5_troubleOfDrop 2 (some .int) 4 (gk n e cp) M [.inr (some 0), .inl v1] (some (.inl rz)) M := by
  refine ga_met (by decide) rfl (Nat.le_of_ble_eq_true rfl) ?_
  intro X C hK T
  show ga_W X M 0 [some (.inr (some 0)), some (.inl v1)] []
  unfold f_X5_troubleOfDrop at hf
  refine ga_al0 C eX5_troubleOfDrop_0 ?_
  refine ga_il1 C eX5_troubleOfDrop_1 ?_
  obtain ⟨r1, c1, hf⟩ := gb_some hf
  refine ga_cV1 C hK eX5_troubleOfDrop_2 nRX5_123 mX5_isJob vX5_isJob rfl (t_X5_isJob hg c1) (by decide) (Nat.le_of_ble_eq_true rfl) ?_
  obtain ⟨g2, hf⟩ := gg_some hf
  refine ga_if_ne C eX5_troubleOfDrop_5 g2 (fun hc => ?_) (fun hc => ?_)
  · rw [if_pos hc] at hf
    refine ga_push C eX5_troubleOfDrop_8 ?_
    exact ga_iret0 C T eX5_troubleOfDrop_9 hf
  · rw [if_neg hc] at hf
    refine ga_al0 C eX5_troubleOfDrop_10 ?_
    refine ga_getR C hK eX5_troubleOfDrop_11 lRX5_19 rfl rfl ?_
    refine ga_il1 C eX5_troubleOfDrop_14 ?_
    obtain ⟨r3, c3, hf⟩ := gb_some hf
    have k3 := gk_get (e := e) (cp := cp) c3
    refine ga_cV1 C hK eX5_troubleOfDrop_15 nRX5_116 mJx4a65c_get_915e3 vJx4a65c_get_915e3 rfl (t_get hg c3) (by decide) (Nat.le_of_ble_eq_true rfl) ?_
    refine ga_cast (q := gaT_4) C hK eX5_troubleOfDrop_18 clRX5_101 rfl k3 ?_
    refine ga_getI C hK eX5_troubleOfDrop_21 lRX5_120 k3 rfl ?_
    obtain ⟨g4, hf⟩ := gg_some hf
    refine ga_if_ne C eX5_troubleOfDrop_24 g4 (fun hc => ?_) (fun hc => ?_)
    · rw [if_pos hc] at hf
      refine ga_push C eX5_troubleOfDrop_27 ?_
      refine ga_goto C eX5_troubleOfDrop_28 ?_
      exact ga_iret0 C T eX5_troubleOfDrop_32 hf
    · rw [if_neg hc] at hf
      refine ga_push C eX5_troubleOfDrop_31 ?_
      exact ga_iret0 C T eX5_troubleOfDrop_32 hf

set_option maxRecDepth 20000 in
set_option maxHeartbeats 4000000 in
theorem t_X5_drop {n e cp G : Nat} (hg : gh n e cp) {M Mz : gaM} {v1 : Int} {rz : Int}  (hf : f_X5_drop G n M v1 = some (rz, Mz)) : ga_Met yX5_drop cX5_drop 2 (some .boolean) 5 (gk n e cp) M [.inr (some 0), .inl v1] (some (.inl rz)) Mz := by
  refine ga_met (by decide) rfl (Nat.le_of_ble_eq_true rfl) ?_
  intro X C hK T
  show ga_W X M 0 [some (.inr (some 0)), some (.inl v1)] []
  unfold f_X5_drop at hf
  refine ga_al0 C eX5_drop_0 ?_
  refine ga_al0 C eX5_drop_1 ?_
  refine ga_il1 C eX5_drop_2 ?_
  obtain ⟨r1, c1, hf⟩ := gb_some hf
  refine ga_cV1 C hK eX5_drop_3 nRX5_113 mX5_troubleOfDrop vX5_troubleOfDrop rfl (t_X5_troubleOfDrop hg c1) (by decide) (Nat.le_of_ble_eq_true rfl) ?_
  obtain ⟨M2, q2, hf⟩ := gB_some hf
  refine ga_putI C hK eX5_drop_6 lRX5_61 (by intro q hq; cases hq; exact ⟨rfl, rfl⟩) rfl rfl q2 ?_
  refine ga_al0 C eX5_drop_9 ?_
  refine ga_getI C hK eX5_drop_10 lRX5_61 rfl rfl ?_
  obtain ⟨g3, hf⟩ := gg_some hf
  refine ga_if_eq C eX5_drop_13 g3 (fun hc => ?_) (fun hc => ?_)
  · rw [if_pos hc] at hf
    refine ga_al0 C eX5_drop_18 ?_
    refine ga_getR C hK eX5_drop_19 lRX5_19 rfl rfl ?_
    refine ga_il1 C eX5_drop_22 ?_
    obtain ⟨r4, c4, hf⟩ := gb_some hf
    have k4 := gk_get (e := e) (cp := cp) c4
    refine ga_cV1 C hK eX5_drop_23 nRX5_116 mJx4a65c_get_915e3 vJx4a65c_get_915e3 rfl (t_get hg c4) (by decide) (Nat.le_of_ble_eq_true rfl) ?_
    refine ga_cast (q := gaT_4) C hK eX5_drop_26 clRX5_101 rfl k4 ?_
    refine ga_push C eX5_drop_29 ?_
    obtain ⟨M5, q5, hf⟩ := gB_some hf
    refine ga_putI C hK eX5_drop_30 lRX5_120 (by intro q hq; cases hq; exact ⟨rfl, rfl⟩) k4 rfl q5 ?_
    refine ga_push C eX5_drop_33 ?_
    exact ga_zretW C T eX5_drop_34 (by decide) hf
  · rw [if_neg hc] at hf
    refine ga_push C eX5_drop_16 ?_
    exact ga_zretW C T eX5_drop_17 (by decide) hf

set_option maxRecDepth 20000 in
set_option maxHeartbeats 4000000 in
theorem t_X5_about {n e cp G : Nat} (hg : gh n e cp) {M : gaM} {v1 v2 : Int} {rz : Int}  (hf : f_X5_about G n M v1 v2 = some rz) : ga_Met yX5_about cX5_about 3 (some .int) 4 (gk n e cp) M [.inr (some 0), .inl v1, .inl v2] (some (.inl rz)) M := by
  refine ga_met (by decide) rfl (Nat.le_of_ble_eq_true rfl) ?_
  intro X C hK T
  show ga_W X M 0 [some (.inr (some 0)), some (.inl v1), some (.inl v2)] []
  unfold f_X5_about at hf
  refine ga_al0 C eX5_about_0 ?_
  refine ga_il1 C eX5_about_1 ?_
  obtain ⟨r1, c1, hf⟩ := gb_some hf
  refine ga_cV1 C hK eX5_about_2 nRX5_123 mX5_isJob vX5_isJob rfl (t_X5_isJob hg c1) (by decide) (Nat.le_of_ble_eq_true rfl) ?_
  obtain ⟨g2, hf⟩ := gg_some hf
  refine ga_if_eq C eX5_about_5 g2 (fun hc => ?_) (fun hc => ?_)
  · rw [if_pos hc] at hf
    refine ga_push C eX5_about_26 ?_
    exact ga_iret0 C T eX5_about_27 hf
  · rw [if_neg hc] at hf
    refine ga_al0 C eX5_about_8 ?_
    refine ga_getR C hK eX5_about_9 lRX5_19 rfl rfl ?_
    refine ga_il1 C eX5_about_12 ?_
    obtain ⟨r3, c3, hf⟩ := gb_some hf
    have k3 := gk_get (e := e) (cp := cp) c3
    refine ga_cV1 C hK eX5_about_13 nRX5_116 mJx4a65c_get_915e3 vJx4a65c_get_915e3 rfl (t_get hg c3) (by decide) (Nat.le_of_ble_eq_true rfl) ?_
    refine ga_cast (q := gaT_4) C hK eX5_about_16 clRX5_101 rfl k3 ?_
    refine ga_il2 C eX5_about_19 ?_
    obtain ⟨r4, c4, hf⟩ := gb_some hf
    refine ga_cV1 C hK eX5_about_20 nRX5_126 mX4_tell vX4_tell k3 (t_X4_tell hg k3 c4) (by decide) (Nat.le_of_ble_eq_true rfl) ?_
    refine ga_goto C eX5_about_23 ?_
    exact ga_iret0 C T eX5_about_27 hf

set_option maxRecDepth 20000 in
set_option maxHeartbeats 4000000 in
theorem t_X5_isBehind {n e cp G : Nat} (hg : gh n e cp) {M : gaM} {v1 : Int} {rz : Int}  (hf : f_X5_isBehind G n M v1 = some rz) : ga_Met yX5_isBehind cX5_isBehind 2 (some .boolean) 0 (gk n e cp) M [.inr (some 0), .inl v1] (some (.inl rz)) M := by
  refine ga_met (by decide) rfl (Nat.le_of_ble_eq_true rfl) ?_
  intro X C hK T
  show ga_W X M 0 [some (.inr (some 0)), some (.inl v1)] []
  unfold f_X5_isBehind at hf
  refine ga_al0 C eX5_isBehind_0 ?_
  refine ga_getR C hK eX5_isBehind_1 lRX5_23 rfl rfl ?_
  refine ga_il1 C eX5_isBehind_4 ?_
  obtain ⟨g1, hf⟩ := gg_some hf
  refine ga_iald C hK eX5_isBehind_5 rfl (by decide) g1 ?_
  refine ga_al0 C eX5_isBehind_6 ?_
  refine ga_getI C hK eX5_isBehind_7 lRX5_54 rfl rfl ?_
  obtain ⟨g2, hf⟩ := gg_some hf
  obtain ⟨g3, hf⟩ := gg_some hf
  refine ga_icmp_le C eX5_isBehind_10 g2 g3 (fun hc => ?_) (fun hc => ?_)
  · rw [if_pos hc] at hf
    refine ga_push C eX5_isBehind_13 ?_
    refine ga_goto C eX5_isBehind_14 ?_
    exact ga_zret0 C T eX5_isBehind_18 (by decide) hf
  · rw [if_neg hc] at hf
    refine ga_push C eX5_isBehind_17 ?_
    exact ga_zret0 C T eX5_isBehind_18 (by decide) hf

set_option maxRecDepth 20000 in
set_option maxHeartbeats 4000000 in
theorem t_X5_rankOf {n e cp G : Nat} (hg : gh n e cp) {M : gaM} {v1 : Int} {rz : Int}  (hf : f_X5_rankOf G n M v1 = some rz) : ga_Met yX5_rankOf cX5_rankOf 3 (some .int) 4 (gk n e cp) M [.inr (some 0), .inl v1] (some (.inl rz)) M := by
  refine ga_met (by decide) rfl (Nat.le_of_ble_eq_true rfl) ?_
  intro X C hK T
  show ga_W X M 0 [some (.inr (some 0)), some (.inl v1), none] []
  unfold f_X5_rankOf at hf
  refine ga_al0 C eX5_rankOf_0 ?_
  refine ga_getR C hK eX5_rankOf_1 lRX5_19 rfl rfl ?_
  refine ga_il1 C eX5_rankOf_4 ?_
  obtain ⟨r1, c1, hf⟩ := gb_some hf
  have k1 := gk_get (e := e) (cp := cp) c1
  refine ga_cV1 C hK eX5_rankOf_5 nRX5_116 mJx4a65c_get_915e3 vJx4a65c_get_915e3 rfl (t_get hg c1) (by decide) (Nat.le_of_ble_eq_true rfl) ?_
  refine ga_cast (q := gaT_4) C hK eX5_rankOf_8 clRX5_101 rfl k1 ?_
  refine ga_as2 C eX5_rankOf_11 ?_
  refine ga_al0 C eX5_rankOf_12 ?_
  refine ga_al2 C eX5_rankOf_13 ?_
  refine ga_getI C hK eX5_rankOf_14 lRX5_227 k1 rfl ?_
  obtain ⟨r2, c2, hf⟩ := gb_some hf
  refine ga_cV1 C hK eX5_rankOf_17 nRX5_156 mX5_isBehind vX5_isBehind rfl (t_X5_isBehind hg c2) (by decide) (Nat.le_of_ble_eq_true rfl) ?_
  obtain ⟨g3, hf⟩ := gg_some hf
  refine ga_if_eq C eX5_rankOf_20 g3 (fun hc => ?_) (fun hc => ?_)
  · rw [if_pos hc] at hf
    refine ga_al2 C eX5_rankOf_30 ?_
    refine ga_getI C hK eX5_rankOf_31 lRX5_182 k1 rfl ?_
    refine ga_push C eX5_rankOf_34 ?_
    refine ga_iadd C eX5_rankOf_37 ?_
    refine ga_push C eX5_rankOf_38 ?_
    refine ga_iadd C eX5_rankOf_39 ?_
    exact ga_iret0 C T eX5_rankOf_40 hf
  · rw [if_neg hc] at hf
    refine ga_al2 C eX5_rankOf_23 ?_
    refine ga_getI C hK eX5_rankOf_24 lRX5_182 k1 rfl ?_
    refine ga_goto C eX5_rankOf_27 ?_
    exact ga_iret0 C T eX5_rankOf_40 hf


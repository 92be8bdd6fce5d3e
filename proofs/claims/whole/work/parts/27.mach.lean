set_option maxRecDepth 20000 in
set_option maxHeartbeats 4000000 in
theorem t_X6_tries {n e cp G : Nat} (hg : gh n e cp) : ∀ (d : Nat) (M : gaM) (v1 : Int) (v2 : Int) (v3 : Int) (Mz : gaM), f_X6_tries G n d M v1 v2 v3 = some Mz → ga_Met yX6_tries cX6_tries 9 none (1 + d) (gk n e cp) M [.inr (some 100), .inl v1, .inl v2, .inl v3] none Mz := by
  intro d
  induction d with
  | zero =>
    intro M v1 v2 v3 Mz hf
    cases hf
  | succ d ihd =>
    intro M v1 v2 v3 Mz hf
    refine ga_met (by decide) rfl (Nat.le_of_ble_eq_true rfl) ?_
    intro X C hK T
    show ga_W X M 0 [some (.inr (some 100)), some (.inl v1), some (.inl v2), some (.inl v3), none, none, none, none, none] []
    rw [f_X6_tries] at hf
    refine ga_il1 C eX6_tries_0 ?_
    refine ga_il2 C eX6_tries_1 ?_
    obtain ⟨g1, hf⟩ := gg_some hf
    obtain ⟨g2, hf⟩ := gg_some hf
    refine ga_icmp_ne C eX6_tries_2 g1 g2 (fun hc => ?_) (fun hc => ?_)
    · rw [if_pos hc] at hf
      refine ga_al0 C eX6_tries_5 ?_
      refine ga_il3 C eX6_tries_6 ?_
      obtain ⟨M3, q3, hf⟩ := gB_some hf
      refine ga_putI C hK eX6_tries_7 lRX6_173 (by intro q hq; cases hq; exact ⟨rfl, rfl⟩) rfl rfl q3 ?_
      exact ga_vretW C T eX6_tries_10 hf
    · rw [if_neg hc] at hf
      refine ga_push C eX6_tries_11 ?_
      refine ga_il1 C eX6_tries_14 ?_
      refine ga_imul C eX6_tries_15 ?_
      refine ga_is4 C eX6_tries_16 ?_
      refine ga_push C eX6_tries_18 ?_
      refine ga_is5 C eX6_tries_19 ?_
      have L21 : ∀ (F : Nat) (M : gaM) (v1 : Int) (v2 : Int) (v3 : Int) (v4 : Int) (v5 : Int), l_X6_tries_21 (f_X6_tries G n d) G n F M v1 v2 v3 v4 v5 = some Mz → ga_W X M 21 [some (.inr (some 100)), some (.inl v1), some (.inl v2), some (.inl v3), some (.inl v4), some (.inl v5), none, none, none] [] := by
        intro F
        induction F with
        | zero =>
          intro M v1 v2 v3 v4 v5 hf
          cases hf
        | succ F ih =>
          intro M v1 v2 v3 v4 v5 hf
          rw [l_X6_tries_21] at hf
          refine ga_il5 C eX6_tries_21 ?_
          refine ga_al0 C eX6_tries_23 ?_
          refine ga_getR C hK eX6_tries_24 lRX6_93 rfl rfl ?_
          refine ga_il1 C eX6_tries_27 ?_
          obtain ⟨g4, hf⟩ := gg_some hf
          refine ga_iald C hK eX6_tries_28 rfl (by decide) g4 ?_
          obtain ⟨g5, hf⟩ := gg_some hf
          obtain ⟨g6, hf⟩ := gg_some hf
          refine ga_icmp_ge C eX6_tries_29 g5 g6 (fun hc => ?_) (fun hc => ?_)
          · rw [if_pos hc] at hf
            refine ga_al0 C eX6_tries_32 ?_
            refine ga_getR C hK eX6_tries_33 lRX6_96 rfl rfl ?_
            refine ga_il4 C eX6_tries_36 ?_
            refine ga_il5 C eX6_tries_38 ?_
            refine ga_iadd C eX6_tries_40 ?_
            obtain ⟨g7, hf⟩ := gg_some hf
            refine ga_iald C hK eX6_tries_41 rfl (by decide) g7 ?_
            refine ga_push C eX6_tries_42 ?_
            obtain ⟨g9, hf⟩ := gg_some hf
            refine ga_idiv C eX6_tries_45 g9 (by decide) ?_
            refine ga_is6 C eX6_tries_46 ?_
            refine ga_al0 C eX6_tries_48 ?_
            refine ga_getI C hK eX6_tries_49 lRX6_173 rfl rfl ?_
            refine ga_push C eX6_tries_52 ?_
            obtain ⟨g10, hf⟩ := gg_some hf
            refine ga_icmp_eq C eX6_tries_53 g10 (by decide) (fun hc => ?_) (fun hc => ?_)
            · rw [if_pos hc] at hf
              refine ga_al0 C eX6_tries_77 ?_
              refine ga_getR C hK eX6_tries_78 lRX6_96 rfl rfl ?_
              refine ga_il4 C eX6_tries_81 ?_
              refine ga_il5 C eX6_tries_83 ?_
              refine ga_iadd C eX6_tries_85 ?_
              refine ga_iald C hK eX6_tries_86 rfl (by decide) g7 ?_
              refine ga_push C eX6_tries_87 ?_
              refine ga_irem C eX6_tries_90 g9 (by decide) ?_
              refine ga_push C eX6_tries_91 ?_
              obtain ⟨g13, hf⟩ := gg_some hf
              refine ga_idiv C eX6_tries_92 g13 (by decide) ?_
              refine ga_is7 C eX6_tries_93 ?_
              refine ga_al0 C eX6_tries_95 ?_
              refine ga_getR C hK eX6_tries_96 lRX6_96 rfl rfl ?_
              refine ga_il4 C eX6_tries_99 ?_
              refine ga_il5 C eX6_tries_101 ?_
              refine ga_iadd C eX6_tries_103 ?_
              refine ga_iald C hK eX6_tries_104 rfl (by decide) g7 ?_
              refine ga_push C eX6_tries_105 ?_
              refine ga_irem C eX6_tries_106 g9 (by decide) ?_
              refine ga_is8 C eX6_tries_107 ?_
              refine ga_al0 C eX6_tries_109 ?_
              refine ga_al0 C eX6_tries_110 ?_
              refine ga_getR C hK eX6_tries_111 lRX6_90 rfl rfl ?_
              refine ga_il1 C eX6_tries_114 ?_
              refine ga_iald C hK eX6_tries_115 rfl (by decide) g4 ?_
              refine ga_il8 C eX6_tries_116 ?_
              refine ga_il7 C eX6_tries_118 ?_
              obtain ⟨r15, c15, hf⟩ := gb_some hf
              refine ga_cV3 C hK eX6_tries_120 nRX6_163 mX6_hasRoom vX6_hasRoom rfl (t_X6_hasRoom hg c15) (by omega) (Nat.le_of_ble_eq_true rfl) ?_
              obtain ⟨g16, hf⟩ := gg_some hf
              obtain ⟨M17, hx, hf⟩ := gb_some hf
              have kx17 : ga_W X M17 171 [some (.inr (some 100)), some (.inl v1), some (.inl v2), some (.inl v3), some (.inl v4), some (.inl v5), none, none, none] [] := by
                refine ga_ii5 C eX6_tries_171 ?_
                refine ga_goto C eX6_tries_174 ?_
                refine ga_forget [true, true, true, true, true, true, false, false, false] rfl ?_
                exact ih _ _ _ _ _ _ hf
              clear hf
              have hf := hx
              refine ga_if_ne C eX6_tries_123 g16 (fun hc => ?_) (fun hc => ?_)
              · rw [if_pos hc] at hf
                refine ga_goto C eX6_tries_126 ?_
                cases hf
                exact ga_forget [true, true, true, true, true, true, false, false, false] rfl kx17
              · rw [if_neg hc] at hf
                refine ga_al0 C eX6_tries_129 ?_
                refine ga_al0 C eX6_tries_130 ?_
                refine ga_getR C hK eX6_tries_131 lRX6_90 rfl rfl ?_
                refine ga_il1 C eX6_tries_134 ?_
                refine ga_iald C hK eX6_tries_135 rfl (by decide) g4 ?_
                refine ga_il8 C eX6_tries_136 ?_
                refine ga_il7 C eX6_tries_138 ?_
                refine ga_push C eX6_tries_140 ?_
                obtain ⟨M18, c18, hf⟩ := gb_some hf
                refine ga_cV4 C hK eX6_tries_141 nRX6_136 mX6_puts vX6_puts rfl (t_X6_puts hg c18) (by omega) (Nat.le_of_ble_eq_true rfl) ?_
                refine ga_al0 C eX6_tries_144 ?_
                refine ga_il1 C eX6_tries_145 ?_
                refine ga_push C eX6_tries_146 ?_
                refine ga_iadd C eX6_tries_147 ?_
                refine ga_il2 C eX6_tries_148 ?_
                refine ga_il3 C eX6_tries_149 ?_
                refine ga_il6 C eX6_tries_150 ?_
                refine ga_iadd C eX6_tries_152 ?_
                obtain ⟨M19, c19, hf⟩ := gb_some hf
                refine ga_cV3 C hK eX6_tries_153 nRX6_176 mX6_tries vX6_tries rfl (ihd _ _ _ _ _ c19) (by omega) (Nat.le_of_ble_eq_true rfl) ?_
                refine ga_al0 C eX6_tries_156 ?_
                refine ga_al0 C eX6_tries_157 ?_
                refine ga_getR C hK eX6_tries_158 lRX6_90 rfl rfl ?_
                refine ga_il1 C eX6_tries_161 ?_
                refine ga_iald C hK eX6_tries_162 rfl (by decide) g4 ?_
                refine ga_il8 C eX6_tries_163 ?_
                refine ga_il7 C eX6_tries_165 ?_
                refine ga_push C eX6_tries_167 ?_
                obtain ⟨M20, c20, hf⟩ := gb_some hf
                refine ga_cV4 C hK eX6_tries_168 nRX6_136 mX6_puts vX6_puts rfl (t_X6_puts hg c20) (by omega) (Nat.le_of_ble_eq_true rfl) ?_
                cases hf
                exact ga_forget [true, true, true, true, true, true, false, false, false] rfl kx17
            · rw [if_neg hc] at hf
              refine ga_il3 C eX6_tries_56 ?_
              refine ga_il6 C eX6_tries_57 ?_
              refine ga_iadd C eX6_tries_59 ?_
              refine ga_al0 C eX6_tries_60 ?_
              refine ga_getR C hK eX6_tries_61 lRX6_99 rfl rfl ?_
              refine ga_il1 C eX6_tries_64 ?_
              refine ga_push C eX6_tries_65 ?_
              refine ga_iadd C eX6_tries_66 ?_
              obtain ⟨g21, hf⟩ := gg_some hf
              refine ga_iald C hK eX6_tries_67 rfl (by decide) g21 ?_
              refine ga_iadd C eX6_tries_68 ?_
              refine ga_al0 C eX6_tries_69 ?_
              refine ga_getI C hK eX6_tries_70 lRX6_173 rfl rfl ?_
              obtain ⟨g22, hf⟩ := gg_some hf
              refine ga_icmp_lt C eX6_tries_73 g22 g10 (fun hc => ?_) (fun hc => ?_)
              · rw [if_pos hc] at hf
                exact ga_vretW C T eX6_tries_76 hf
              · rw [if_neg hc] at hf
                refine ga_al0 C eX6_tries_77 ?_
                refine ga_getR C hK eX6_tries_78 lRX6_96 rfl rfl ?_
                refine ga_il4 C eX6_tries_81 ?_
                refine ga_il5 C eX6_tries_83 ?_
                refine ga_iadd C eX6_tries_85 ?_
                refine ga_iald C hK eX6_tries_86 rfl (by decide) g7 ?_
                refine ga_push C eX6_tries_87 ?_
                refine ga_irem C eX6_tries_90 g9 (by decide) ?_
                refine ga_push C eX6_tries_91 ?_
                obtain ⟨g25, hf⟩ := gg_some hf
                refine ga_idiv C eX6_tries_92 g25 (by decide) ?_
                refine ga_is7 C eX6_tries_93 ?_
                refine ga_al0 C eX6_tries_95 ?_
                refine ga_getR C hK eX6_tries_96 lRX6_96 rfl rfl ?_
                refine ga_il4 C eX6_tries_99 ?_
                refine ga_il5 C eX6_tries_101 ?_
                refine ga_iadd C eX6_tries_103 ?_
                refine ga_iald C hK eX6_tries_104 rfl (by decide) g7 ?_
                refine ga_push C eX6_tries_105 ?_
                refine ga_irem C eX6_tries_106 g9 (by decide) ?_
                refine ga_is8 C eX6_tries_107 ?_
                refine ga_al0 C eX6_tries_109 ?_
                refine ga_al0 C eX6_tries_110 ?_
                refine ga_getR C hK eX6_tries_111 lRX6_90 rfl rfl ?_
                refine ga_il1 C eX6_tries_114 ?_
                refine ga_iald C hK eX6_tries_115 rfl (by decide) g4 ?_
                refine ga_il8 C eX6_tries_116 ?_
                refine ga_il7 C eX6_tries_118 ?_
                obtain ⟨r27, c27, hf⟩ := gb_some hf
                refine ga_cV3 C hK eX6_tries_120 nRX6_163 mX6_hasRoom vX6_hasRoom rfl (t_X6_hasRoom hg c27) (by omega) (Nat.le_of_ble_eq_true rfl) ?_
                obtain ⟨g28, hf⟩ := gg_some hf
                obtain ⟨M29, hx, hf⟩ := gb_some hf
                have kx29 : ga_W X M29 171 [some (.inr (some 100)), some (.inl v1), some (.inl v2), some (.inl v3), some (.inl v4), some (.inl v5), none, none, none] [] := by
                  refine ga_ii5 C eX6_tries_171 ?_
                  refine ga_goto C eX6_tries_174 ?_
                  refine ga_forget [true, true, true, true, true, true, false, false, false] rfl ?_
                  exact ih _ _ _ _ _ _ hf
                clear hf
                have hf := hx
                refine ga_if_ne C eX6_tries_123 g28 (fun hc => ?_) (fun hc => ?_)
                · rw [if_pos hc] at hf
                  refine ga_goto C eX6_tries_126 ?_
                  cases hf
                  exact ga_forget [true, true, true, true, true, true, false, false, false] rfl kx29
                · rw [if_neg hc] at hf
                  refine ga_al0 C eX6_tries_129 ?_
                  refine ga_al0 C eX6_tries_130 ?_
                  refine ga_getR C hK eX6_tries_131 lRX6_90 rfl rfl ?_
                  refine ga_il1 C eX6_tries_134 ?_
                  refine ga_iald C hK eX6_tries_135 rfl (by decide) g4 ?_
                  refine ga_il8 C eX6_tries_136 ?_
                  refine ga_il7 C eX6_tries_138 ?_
                  refine ga_push C eX6_tries_140 ?_
                  obtain ⟨M30, c30, hf⟩ := gb_some hf
                  refine ga_cV4 C hK eX6_tries_141 nRX6_136 mX6_puts vX6_puts rfl (t_X6_puts hg c30) (by omega) (Nat.le_of_ble_eq_true rfl) ?_
                  refine ga_al0 C eX6_tries_144 ?_
                  refine ga_il1 C eX6_tries_145 ?_
                  refine ga_push C eX6_tries_146 ?_
                  refine ga_iadd C eX6_tries_147 ?_
                  refine ga_il2 C eX6_tries_148 ?_
                  refine ga_il3 C eX6_tries_149 ?_
                  refine ga_il6 C eX6_tries_150 ?_
                  refine ga_iadd C eX6_tries_152 ?_
                  obtain ⟨M31, c31, hf⟩ := gb_some hf
                  refine ga_cV3 C hK eX6_tries_153 nRX6_176 mX6_tries vX6_tries rfl (ihd _ _ _ _ _ c31) (by omega) (Nat.le_of_ble_eq_true rfl) ?_
                  refine ga_al0 C eX6_tries_156 ?_
                  refine ga_al0 C eX6_tries_157 ?_
                  refine ga_getR C hK eX6_tries_158 lRX6_90 rfl rfl ?_
                  refine ga_il1 C eX6_tries_161 ?_
                  refine ga_iald C hK eX6_tries_162 rfl (by decide) g4 ?_
                  refine ga_il8 C eX6_tries_163 ?_
                  refine ga_il7 C eX6_tries_165 ?_
                  refine ga_push C eX6_tries_167 ?_
                  obtain ⟨M32, c32, hf⟩ := gb_some hf
                  refine ga_cV4 C hK eX6_tries_168 nRX6_136 mX6_puts vX6_puts rfl (t_X6_puts hg c32) (by omega) (Nat.le_of_ble_eq_true rfl) ?_
                  cases hf
                  exact ga_forget [true, true, true, true, true, true, false, false, false] rfl kx29
          · rw [if_neg hc] at hf
            exact ga_vretW C T eX6_tries_177 hf
      refine ga_forget [true, true, true, true, true, true, false, false, false] rfl ?_
      exact L21 G _ _ _ _ _ _ hf

set_option maxRecDepth 20000 in
set_option maxHeartbeats 4000000 in
theorem t_X6_best {n e cp G : Nat} (hg : gh n e cp) {M Mz : gaM} {rz : Int}  (hf : f_X6_best G n M = some (rz, Mz)) : ga_Met yX6_best cX6_best 3 (some .int) 7 (gk n e cp) M [.inr (some 100)] (some (.inl rz)) Mz := by
  refine ga_met (by decide) rfl (Nat.le_of_ble_eq_true rfl) ?_
  intro X C hK T
  show ga_W X M 0 [some (.inr (some 100)), none, none] []
  unfold f_X6_best at hf
  refine ga_al0 C eX6_best_0 ?_
  refine ga_push C eX6_best_1 ?_
  obtain ⟨M1, q1, hf⟩ := gB_some hf
  refine ga_putI C hK eX6_best_2 lRX6_1 (by intro q hq; cases hq; exact ⟨rfl, rfl⟩) rfl rfl q1 ?_
  refine ga_push C eX6_best_5 ?_
  refine ga_is1 C eX6_best_6 ?_
  refine ga_push C eX6_best_7 ?_
  refine ga_is2 C eX6_best_8 ?_
  have L9 : ∀ (F : Nat) (M : gaM) (v1 : Int) (v2 : Int), l_X6_best_9 G n F M v1 v2 = some (rz, Mz) → ga_W X M 9 [some (.inr (some 100)), some (.inl v1), some (.inl v2)] [] := by
    intro F
    induction F with
    | zero =>
      intro M v1 v2 hf
      cases hf
    | succ F ih =>
      intro M v1 v2 hf
      rw [l_X6_best_9] at hf
      refine ga_il2 C eX6_best_9 ?_
      refine ga_al0 C eX6_best_10 ?_
      refine ga_getI C hK eX6_best_11 lRX6_105 rfl rfl ?_
      obtain ⟨g2, hf⟩ := gg_some hf
      obtain ⟨g3, hf⟩ := gg_some hf
      refine ga_icmp_ge C eX6_best_14 g2 g3 (fun hc => ?_) (fun hc => ?_)
      · rw [if_pos hc] at hf
        refine ga_al0 C eX6_best_17 ?_
        refine ga_getR C hK eX6_best_18 lRX6_47 rfl rfl ?_
        refine ga_il2 C eX6_best_21 ?_
        obtain ⟨g4, hf⟩ := gg_some hf
        refine ga_iald C hK eX6_best_22 rfl (by decide) g4 ?_
        obtain ⟨g5, hf⟩ := gg_some hf
        refine ga_if_eq C eX6_best_23 g5 (fun hc => ?_) (fun hc => ?_)
        · rw [if_pos hc] at hf
          refine ga_il1 C eX6_best_29 ?_
          refine ga_push C eX6_best_30 ?_
          obtain ⟨g6, hf⟩ := gg_some hf
          refine ga_icmp_ne C eX6_best_31 g6 (by decide) (fun hc => ?_) (fun hc => ?_)
          · rw [if_pos hc] at hf
            refine ga_al0 C eX6_best_34 ?_
            refine ga_push C eX6_best_35 ?_
            obtain ⟨r7, M7, c7, hf⟩ := gb2_some hf
            refine ga_cV1 C hK eX6_best_36 nRX6_112 mX6_refused vX6_refused rfl (t_X6_refused hg c7) (by decide) (Nat.le_of_ble_eq_true rfl) ?_
            exact ga_iretW C T eX6_best_39 hf
          · rw [if_neg hc] at hf
            refine ga_al0 C eX6_best_40 ?_
            refine ga_getR C hK eX6_best_41 lRX6_90 rfl rfl ?_
            refine ga_il1 C eX6_best_44 ?_
            refine ga_il2 C eX6_best_45 ?_
            obtain ⟨g9, hf⟩ := gg_some hf
            obtain ⟨M8, q8, hf⟩ := gB_some hf
            refine ga_iast C hK eX6_best_46 rfl (by decide) g9 q8 ?_
            refine ga_ii1 C eX6_best_47 ?_
            refine ga_ii2 C eX6_best_50 ?_
            refine ga_goto C eX6_best_53 ?_
            refine ga_forget [true, true, true] rfl ?_
            exact ih _ _ _ hf
        · rw [if_neg hc] at hf
          refine ga_goto C eX6_best_26 ?_
          refine ga_ii2 C eX6_best_50 ?_
          refine ga_goto C eX6_best_53 ?_
          refine ga_forget [true, true, true] rfl ?_
          exact ih _ _ _ hf
      · rw [if_neg hc] at hf
        refine ga_al0 C eX6_best_56 ?_
        obtain ⟨M10, c10, hf⟩ := gb_some hf
        refine ga_cV0 C hK eX6_best_57 nRX6_143 mX6_uses vX6_uses rfl (t_X6_uses hg c10) (by decide) (Nat.le_of_ble_eq_true rfl) ?_
        refine ga_al0 C eX6_best_60 ?_
        refine ga_getR C hK eX6_best_61 lRX6_99 rfl rfl ?_
        refine ga_il1 C eX6_best_64 ?_
        refine ga_push C eX6_best_65 ?_
        obtain ⟨g12, hf⟩ := gg_some hf
        obtain ⟨M11, q11, hf⟩ := gB_some hf
        refine ga_iast C hK eX6_best_66 rfl (by decide) g12 q11 ?_
        refine ga_il1 C eX6_best_67 ?_
        refine ga_push C eX6_best_68 ?_
        refine ga_isub C eX6_best_69 ?_
        refine ga_is2 C eX6_best_70 ?_
        have L71 : ∀ (F : Nat) (M : gaM) (v1 : Int) (v2 : Int), l_X6_best_71 G n F M v1 v2 = some (rz, Mz) → ga_W X M 71 [some (.inr (some 100)), some (.inl v1), some (.inl v2)] [] := by
          intro F
          induction F with
          | zero =>
            intro M v1 v2 hf
            cases hf
          | succ F ih =>
            intro M v1 v2 hf
            rw [l_X6_best_71] at hf
            refine ga_il2 C eX6_best_71 ?_
            obtain ⟨g13, hf⟩ := gg_some hf
            refine ga_if_lt C eX6_best_72 g13 (fun hc => ?_) (fun hc => ?_)
            · rw [if_pos hc] at hf
              refine ga_al0 C eX6_best_75 ?_
              refine ga_il2 C eX6_best_76 ?_
              refine ga_al0 C eX6_best_77 ?_
              refine ga_getR C hK eX6_best_78 lRX6_90 rfl rfl ?_
              refine ga_il2 C eX6_best_81 ?_
              obtain ⟨g14, hf⟩ := gg_some hf
              refine ga_iald C hK eX6_best_82 rfl (by decide) g14 ?_
              obtain ⟨M15, c15, hf⟩ := gb_some hf
              refine ga_cV2 C hK eX6_best_83 nRX6_180 mX6_lists vX6_lists rfl (t_X6_lists hg c15) (by decide) (Nat.le_of_ble_eq_true rfl) ?_
              refine ga_al0 C eX6_best_86 ?_
              refine ga_getR C hK eX6_best_87 lRX6_93 rfl rfl ?_
              refine ga_il2 C eX6_best_90 ?_
              refine ga_iald C hK eX6_best_91 rfl (by decide) g14 ?_
              obtain ⟨g16, hf⟩ := gg_some hf
              refine ga_if_ne C eX6_best_92 g16 (fun hc => ?_) (fun hc => ?_)
              · rw [if_pos hc] at hf
                refine ga_al0 C eX6_best_95 ?_
                refine ga_push C eX6_best_96 ?_
                obtain ⟨r17, M17, c17, hf⟩ := gb2_some hf
                refine ga_cV1 C hK eX6_best_97 nRX6_112 mX6_refused vX6_refused rfl (t_X6_refused hg c17) (by decide) (Nat.le_of_ble_eq_true rfl) ?_
                exact ga_iretW C T eX6_best_100 hf
              · rw [if_neg hc] at hf
                refine ga_al0 C eX6_best_101 ?_
                refine ga_getR C hK eX6_best_102 lRX6_99 rfl rfl ?_
                refine ga_il2 C eX6_best_105 ?_
                refine ga_al0 C eX6_best_106 ?_
                refine ga_getR C hK eX6_best_107 lRX6_99 rfl rfl ?_
                refine ga_il2 C eX6_best_110 ?_
                refine ga_push C eX6_best_111 ?_
                refine ga_iadd C eX6_best_112 ?_
                obtain ⟨g18, hf⟩ := gg_some hf
                refine ga_iald C hK eX6_best_113 rfl (by decide) g18 ?_
                refine ga_al0 C eX6_best_114 ?_
                refine ga_getR C hK eX6_best_115 lRX6_96 rfl rfl ?_
                refine ga_push C eX6_best_118 ?_
                refine ga_il2 C eX6_best_121 ?_
                refine ga_imul C eX6_best_122 ?_
                obtain ⟨g19, hf⟩ := gg_some hf
                refine ga_iald C hK eX6_best_123 rfl (by decide) g19 ?_
                refine ga_push C eX6_best_124 ?_
                obtain ⟨g21, hf⟩ := gg_some hf
                refine ga_idiv C eX6_best_127 g21 (by decide) ?_
                refine ga_iadd C eX6_best_128 ?_
                obtain ⟨g23, hf⟩ := gg_some hf
                obtain ⟨M22, q22, hf⟩ := gB_some hf
                refine ga_iast C hK eX6_best_129 rfl (by decide) g23 q22 ?_
                refine ga_ii2 C eX6_best_130 ?_
                refine ga_goto C eX6_best_133 ?_
                refine ga_forget [true, true, true] rfl ?_
                exact ih _ _ _ hf
            · rw [if_neg hc] at hf
              refine ga_al0 C eX6_best_136 ?_
              refine ga_push C eX6_best_137 ?_
              obtain ⟨M24, q24, hf⟩ := gB_some hf
              refine ga_putI C hK eX6_best_138 lRX6_173 (by intro q hq; cases hq; exact ⟨rfl, rfl⟩) rfl rfl q24 ?_
              refine ga_al0 C eX6_best_141 ?_
              refine ga_push C eX6_best_142 ?_
              refine ga_il1 C eX6_best_143 ?_
              refine ga_push C eX6_best_144 ?_
              obtain ⟨M25, c25, hf⟩ := gb_some hf
              refine ga_cV3 C hK eX6_best_145 nRX6_176 mX6_tries vX6_tries rfl (t_X6_tries hg 5 _ _ _ _ _ c25) (by decide) (Nat.le_of_ble_eq_true rfl) ?_
              refine ga_al0 C eX6_best_148 ?_
              refine ga_getI C hK eX6_best_149 lRX6_173 rfl rfl ?_
              refine ga_push C eX6_best_152 ?_
              obtain ⟨g26, hf⟩ := gg_some hf
              refine ga_icmp_ne C eX6_best_153 g26 (by decide) (fun hc => ?_) (fun hc => ?_)
              · rw [if_pos hc] at hf
                refine ga_al0 C eX6_best_156 ?_
                refine ga_push C eX6_best_157 ?_
                obtain ⟨r27, M27, c27, hf⟩ := gb2_some hf
                refine ga_cV1 C hK eX6_best_158 nRX6_112 mX6_refused vX6_refused rfl (t_X6_refused hg c27) (by decide) (Nat.le_of_ble_eq_true rfl) ?_
                refine ga_goto C eX6_best_161 ?_
                exact ga_iretW C T eX6_best_172 hf
              · rw [if_neg hc] at hf
                refine ga_al0 C eX6_best_164 ?_
                refine ga_al0 C eX6_best_165 ?_
                refine ga_getI C hK eX6_best_166 lRX6_173 rfl rfl ?_
                obtain ⟨r28, M28, c28, hf⟩ := gb2_some hf
                refine ga_cV1 C hK eX6_best_169 nRX6_116 mX6_done vX6_done rfl (t_X6_done hg c28) (by decide) (Nat.le_of_ble_eq_true rfl) ?_
                exact ga_iretW C T eX6_best_172 hf
        refine ga_forget [true, true, true] rfl ?_
        exact L71 G _ _ _ hf
  refine ga_forget [true, true, true] rfl ?_
  exact L9 G _ _ _ hf

set_option maxRecDepth 20000 in
set_option maxHeartbeats 4000000 in
theorem t_X6_free {n e cp G : Nat} (hg : gh n e cp) {M Mz : gaM} {v1 v2 : Int} {rz : Int}  (hf : f_X6_free G n M v1 v2 = some (rz, Mz)) : ga_Met yX6_free cX6_free 3 (some .int) 2 (gk n e cp) M [.inr (some 100), .inl v1, .inl v2] (some (.inl rz)) Mz := by
  refine ga_met (by decide) rfl (Nat.le_of_ble_eq_true rfl) ?_
  intro X C hK T
  show ga_W X M 0 [some (.inr (some 100)), some (.inl v1), some (.inl v2)] []
  unfold f_X6_free at hf
  refine ga_al0 C eX6_free_0 ?_
  refine ga_push C eX6_free_1 ?_
  obtain ⟨M1, q1, hf⟩ := gB_some hf
  refine ga_putI C hK eX6_free_2 lRX6_1 (by intro q hq; cases hq; exact ⟨rfl, rfl⟩) rfl rfl q1 ?_
  refine ga_al0 C eX6_free_5 ?_
  refine ga_il1 C eX6_free_6 ?_
  obtain ⟨r2, c2, hf⟩ := gb_some hf
  refine ga_cV1 C hK eX6_free_7 nRX6_119 mX6_isPlace vX6_isPlace rfl (t_X6_isPlace hg c2) (by decide) (Nat.le_of_ble_eq_true rfl) ?_
  obtain ⟨g3, hf⟩ := gg_some hf
  refine ga_if_eq C eX6_free_10 g3 (fun hc => ?_) (fun hc => ?_)
  · rw [if_pos hc] at hf
    refine ga_push C eX6_free_27 ?_
    exact ga_iretW C T eX6_free_28 hf
  · rw [if_neg hc] at hf
    refine ga_il2 C eX6_free_13 ?_
    refine ga_al0 C eX6_free_14 ?_
    refine ga_getI C hK eX6_free_15 lRX6_130 rfl rfl ?_
    refine ga_push C eX6_free_18 ?_
    obtain ⟨r4, c4, hf⟩ := gb_some hf
    refine ga_cS3 C hK eX6_free_21 nRX6_108 mX6_in sX6_in (t_X6_in hg c4) (by decide) (Nat.le_of_ble_eq_true rfl) ?_
    obtain ⟨g5, hf⟩ := gg_some hf
    refine ga_if_ne C eX6_free_24 g5 (fun hc => ?_) (fun hc => ?_)
    · rw [if_pos hc] at hf
      refine ga_push C eX6_free_27 ?_
      exact ga_iretW C T eX6_free_28 hf
    · rw [if_neg hc] at hf
      refine ga_al0 C eX6_free_29 ?_
      obtain ⟨M6, c6, hf⟩ := gb_some hf
      refine ga_cV0 C hK eX6_free_30 nRX6_143 mX6_uses vX6_uses rfl (t_X6_uses hg c6) (by decide) (Nat.le_of_ble_eq_true rfl) ?_
      refine ga_al0 C eX6_free_33 ?_
      refine ga_getR C hK eX6_free_34 lRX6_19 rfl rfl ?_
      refine ga_il1 C eX6_free_37 ?_
      obtain ⟨g7, hf⟩ := gg_some hf
      refine ga_iald C hK eX6_free_38 rfl (by decide) g7 ?_
      refine ga_al0 C eX6_free_39 ?_
      refine ga_getR C hK eX6_free_40 lRX6_59 rfl rfl ?_
      refine ga_push C eX6_free_43 ?_
      refine ga_il1 C eX6_free_46 ?_
      refine ga_imul C eX6_free_47 ?_
      refine ga_il2 C eX6_free_48 ?_
      refine ga_iadd C eX6_free_49 ?_
      obtain ⟨g8, hf⟩ := gg_some hf
      refine ga_iald C hK eX6_free_50 rfl (by decide) g8 ?_
      refine ga_isub C eX6_free_51 ?_
      exact ga_iretW C T eX6_free_52 hf

set_option maxRecDepth 20000 in
set_option maxHeartbeats 4000000 in
theorem t_X6_anHour {n e cp G : Nat} (hg : gh n e cp) {M Mz : gaM} {rz : Int}  (hf : f_X6_anHour G n M = some (rz, Mz)) : ga_Met yX6_anHour cX6_anHour 3 (some .int) 3 (gk n e cp) M [.inr (some 100)] (some (.inl rz)) Mz := by
  refine ga_met (by decide) rfl (Nat.le_of_ble_eq_true rfl) ?_
  intro X C hK T
  show ga_W X M 0 [some (.inr (some 100)), none, none] []
  unfold f_X6_anHour at hf
  refine ga_al0 C eX6_anHour_0 ?_
  obtain ⟨M1, c1, hf⟩ := gb_some hf
  refine ga_cV0 C hK eX6_anHour_1 nRX6_170 mX6_lays vX6_lays rfl (t_X6_lays hg c1) (by decide) (Nat.le_of_ble_eq_true rfl) ?_
  refine ga_push C eX6_anHour_4 ?_
  refine ga_is1 C eX6_anHour_5 ?_
  refine ga_push C eX6_anHour_6 ?_
  refine ga_is2 C eX6_anHour_7 ?_
  have L8 : ∀ (F : Nat) (M : gaM) (v1 : Int) (v2 : Int) (M2 : gaM), l_X6_anHour_8 G n F M v1 v2 = some M2 → ga_W X M2 151 [some (.inr (some 100)), some (.inl v1), none] [] → ga_W X M 8 [some (.inr (some 100)), some (.inl v1), some (.inl v2)] [] := by
    intro F
    induction F with
    | zero =>
      intro M v1 v2 M2 hf kx
      cases hf
    | succ F ih =>
      intro M v1 v2 M2 hf kx
      rw [l_X6_anHour_8] at hf
      refine ga_il2 C eX6_anHour_8 ?_
      refine ga_al0 C eX6_anHour_9 ?_
      refine ga_getI C hK eX6_anHour_10 lRX6_105 rfl rfl ?_
      obtain ⟨g3, hf⟩ := gg_some hf
      obtain ⟨g4, hf⟩ := gg_some hf
      refine ga_icmp_ge C eX6_anHour_13 g3 g4 (fun hc => ?_) (fun hc => ?_)
      · rw [if_pos hc] at hf
        refine ga_al0 C eX6_anHour_16 ?_
        refine ga_getR C hK eX6_anHour_17 lRX6_47 rfl rfl ?_
        refine ga_il2 C eX6_anHour_20 ?_
        obtain ⟨g5, hf⟩ := gg_some hf
        refine ga_iald C hK eX6_anHour_21 rfl (by decide) g5 ?_
        obtain ⟨g6, hf⟩ := gg_some hf
        obtain ⟨M7, hx, hf⟩ := gb_some hf
        have kx7 : ga_W X M7 145 [some (.inr (some 100)), some (.inl v1), some (.inl v2)] [] := by
          refine ga_ii2 C eX6_anHour_145 ?_
          refine ga_goto C eX6_anHour_148 ?_
          refine ga_forget [true, true, true] rfl ?_
          exact ih _ _ _ _ hf kx
        clear hf
        have hf := hx
        refine ga_if_eq C eX6_anHour_22 g6 (fun hc => ?_) (fun hc => ?_)
        · rw [if_pos hc] at hf
          refine ga_al0 C eX6_anHour_28 ?_
          refine ga_getR C hK eX6_anHour_29 lRX6_62 rfl rfl ?_
          refine ga_il2 C eX6_anHour_32 ?_
          refine ga_iald C hK eX6_anHour_33 rfl (by decide) g5 ?_
          refine ga_push C eX6_anHour_34 ?_
          obtain ⟨g8, hf⟩ := gg_some hf
          refine ga_icmp_eq C eX6_anHour_35 g8 (by decide) (fun hc => ?_) (fun hc => ?_)
          · rw [if_pos hc] at hf
            refine ga_al0 C eX6_anHour_116 ?_
            refine ga_getI C hK eX6_anHour_117 lRX6_130 rfl rfl ?_
            refine ga_push C eX6_anHour_120 ?_
            refine ga_iadd C eX6_anHour_121 ?_
            refine ga_al0 C eX6_anHour_122 ?_
            refine ga_getR C hK eX6_anHour_123 lRX6_35 rfl rfl ?_
            refine ga_il2 C eX6_anHour_126 ?_
            refine ga_iald C hK eX6_anHour_127 rfl (by decide) g5 ?_
            refine ga_iadd C eX6_anHour_128 ?_
            refine ga_al0 C eX6_anHour_129 ?_
            refine ga_getR C hK eX6_anHour_130 lRX6_41 rfl rfl ?_
            refine ga_il2 C eX6_anHour_133 ?_
            refine ga_iald C hK eX6_anHour_134 rfl (by decide) g5 ?_
            obtain ⟨g9, hf⟩ := gg_some hf
            obtain ⟨g10, hf⟩ := gg_some hf
            refine ga_icmp_le C eX6_anHour_135 g9 g10 (fun hc => ?_) (fun hc => ?_)
            · rw [if_pos hc] at hf
              refine ga_al0 C eX6_anHour_138 ?_
              refine ga_getR C hK eX6_anHour_139 lRX6_47 rfl rfl ?_
              refine ga_il2 C eX6_anHour_142 ?_
              refine ga_push C eX6_anHour_143 ?_
              obtain ⟨M11, q11, hf⟩ := gB_some hf
              refine ga_iast C hK eX6_anHour_144 rfl (by decide) g5 q11 ?_
              cases hf
              exact ga_forget [true, true, true] rfl kx7
            · rw [if_neg hc] at hf
              cases hf
              exact ga_forget [true, true, true] rfl kx7
          · rw [if_neg hc] at hf
            refine ga_al0 C eX6_anHour_38 ?_
            refine ga_getR C hK eX6_anHour_39 lRX6_65 rfl rfl ?_
            refine ga_il2 C eX6_anHour_42 ?_
            refine ga_iald C hK eX6_anHour_43 rfl (by decide) g5 ?_
            refine ga_al0 C eX6_anHour_44 ?_
            refine ga_getI C hK eX6_anHour_45 lRX6_130 rfl rfl ?_
            obtain ⟨g12, hf⟩ := gg_some hf
            obtain ⟨g13, hf⟩ := gg_some hf
            refine ga_icmp_ne C eX6_anHour_48 g12 g13 (fun hc => ?_) (fun hc => ?_)
            · rw [if_pos hc] at hf
              refine ga_al0 C eX6_anHour_51 ?_
              refine ga_getR C hK eX6_anHour_52 lRX6_47 rfl rfl ?_
              refine ga_il2 C eX6_anHour_55 ?_
              refine ga_push C eX6_anHour_56 ?_
              obtain ⟨M14, q14, hf⟩ := gB_some hf
              refine ga_iast C hK eX6_anHour_57 rfl (by decide) g5 q14 ?_
              refine ga_al0 C eX6_anHour_58 ?_
              refine ga_getR C hK eX6_anHour_59 lRX6_50 rfl rfl ?_
              refine ga_il2 C eX6_anHour_62 ?_
              refine ga_al0 C eX6_anHour_63 ?_
              refine ga_getR C hK eX6_anHour_64 lRX6_62 rfl rfl ?_
              refine ga_il2 C eX6_anHour_67 ?_
              refine ga_iald C hK eX6_anHour_68 rfl (by decide) g5 ?_
              obtain ⟨M15, q15, hf⟩ := gB_some hf
              refine ga_iast C hK eX6_anHour_69 rfl (by decide) g5 q15 ?_
              refine ga_al0 C eX6_anHour_70 ?_
              refine ga_getR C hK eX6_anHour_71 lRX6_53 rfl rfl ?_
              refine ga_il2 C eX6_anHour_74 ?_
              refine ga_al0 C eX6_anHour_75 ?_
              refine ga_getI C hK eX6_anHour_76 lRX6_130 rfl rfl ?_
              obtain ⟨M16, q16, hf⟩ := gB_some hf
              refine ga_iast C hK eX6_anHour_79 rfl (by decide) g5 q16 ?_
              refine ga_al0 C eX6_anHour_80 ?_
              refine ga_getR C hK eX6_anHour_81 lRX6_56 rfl rfl ?_
              refine ga_il2 C eX6_anHour_84 ?_
              refine ga_al0 C eX6_anHour_85 ?_
              refine ga_getR C hK eX6_anHour_86 lRX6_44 rfl rfl ?_
              refine ga_il2 C eX6_anHour_89 ?_
              refine ga_iald C hK eX6_anHour_90 rfl (by decide) g5 ?_
              refine ga_al0 C eX6_anHour_91 ?_
              refine ga_getR C hK eX6_anHour_92 lRX6_23 rfl rfl ?_
              refine ga_push C eX6_anHour_95 ?_
              refine ga_al0 C eX6_anHour_96 ?_
              refine ga_getR C hK eX6_anHour_97 lRX6_32 rfl rfl ?_
              refine ga_il2 C eX6_anHour_100 ?_
              refine ga_iald C hK eX6_anHour_101 rfl (by decide) g5 ?_
              refine ga_imul C eX6_anHour_102 ?_
              refine ga_al0 C eX6_anHour_103 ?_
              refine ga_getR C hK eX6_anHour_104 lRX6_50 rfl rfl ?_
              refine ga_il2 C eX6_anHour_107 ?_
              refine ga_iald C hK eX6_anHour_108 rfl (by decide) g5 ?_
              refine ga_iadd C eX6_anHour_109 ?_
              obtain ⟨g17, hf⟩ := gg_some hf
              refine ga_iald C hK eX6_anHour_110 rfl (by decide) g17 ?_
              refine ga_imul C eX6_anHour_111 ?_
              obtain ⟨M18, q18, hf⟩ := gB_some hf
              refine ga_iast C hK eX6_anHour_112 rfl (by decide) g5 q18 ?_
              refine ga_goto C eX6_anHour_113 ?_
              cases hf
              exact ga_forget [true, true, true] rfl kx7
            · rw [if_neg hc] at hf
              refine ga_al0 C eX6_anHour_116 ?_
              refine ga_getI C hK eX6_anHour_117 lRX6_130 rfl rfl ?_
              refine ga_push C eX6_anHour_120 ?_
              refine ga_iadd C eX6_anHour_121 ?_
              refine ga_al0 C eX6_anHour_122 ?_
              refine ga_getR C hK eX6_anHour_123 lRX6_35 rfl rfl ?_
              refine ga_il2 C eX6_anHour_126 ?_
              refine ga_iald C hK eX6_anHour_127 rfl (by decide) g5 ?_
              refine ga_iadd C eX6_anHour_128 ?_
              refine ga_al0 C eX6_anHour_129 ?_
              refine ga_getR C hK eX6_anHour_130 lRX6_41 rfl rfl ?_
              refine ga_il2 C eX6_anHour_133 ?_
              refine ga_iald C hK eX6_anHour_134 rfl (by decide) g5 ?_
              obtain ⟨g19, hf⟩ := gg_some hf
              obtain ⟨g20, hf⟩ := gg_some hf
              refine ga_icmp_le C eX6_anHour_135 g19 g20 (fun hc => ?_) (fun hc => ?_)
              · rw [if_pos hc] at hf
                refine ga_al0 C eX6_anHour_138 ?_
                refine ga_getR C hK eX6_anHour_139 lRX6_47 rfl rfl ?_
                refine ga_il2 C eX6_anHour_142 ?_
                refine ga_push C eX6_anHour_143 ?_
                obtain ⟨M21, q21, hf⟩ := gB_some hf
                refine ga_iast C hK eX6_anHour_144 rfl (by decide) g5 q21 ?_
                cases hf
                exact ga_forget [true, true, true] rfl kx7
              · rw [if_neg hc] at hf
                cases hf
                exact ga_forget [true, true, true] rfl kx7
        · rw [if_neg hc] at hf
          refine ga_goto C eX6_anHour_25 ?_
          cases hf
          exact ga_forget [true, true, true] rfl kx7
      · rw [if_neg hc] at hf
        cases hf
        exact ga_forget [true, true, false] rfl kx
  obtain ⟨M2, hl2, hf⟩ := gb_some hf
  refine ga_forget [true, true, true] rfl ?_
  refine L8 G _ _ _ _ hl2 ?_
  refine ga_push C eX6_anHour_151 ?_
  refine ga_is2 C eX6_anHour_152 ?_
  have L153 : ∀ (F : Nat) (M : gaM) (v1 : Int) (v2 : Int) (M22 : gaM) (x1_22 : Int), l_X6_anHour_153 G n F M v1 v2 = some (M22, x1_22) → ga_W X M22 244 [some (.inr (some 100)), some (.inl x1_22), none] [] → ga_W X M 153 [some (.inr (some 100)), some (.inl v1), some (.inl v2)] [] := by
    intro F
    induction F with
    | zero =>
      intro M v1 v2 M22 x1_22 hf kx
      cases hf
    | succ F ih =>
      intro M v1 v2 M22 x1_22 hf kx
      rw [l_X6_anHour_153] at hf
      refine ga_il2 C eX6_anHour_153 ?_
      refine ga_al0 C eX6_anHour_154 ?_
      refine ga_getI C hK eX6_anHour_155 lRX6_105 rfl rfl ?_
      obtain ⟨g23, hf⟩ := gg_some hf
      obtain ⟨g24, hf⟩ := gg_some hf
      refine ga_icmp_ge C eX6_anHour_158 g23 g24 (fun hc => ?_) (fun hc => ?_)
      · rw [if_pos hc] at hf
        refine ga_al0 C eX6_anHour_161 ?_
        refine ga_getR C hK eX6_anHour_162 lRX6_47 rfl rfl ?_
        refine ga_il2 C eX6_anHour_165 ?_
        obtain ⟨g25, hf⟩ := gg_some hf
        refine ga_iald C hK eX6_anHour_166 rfl (by decide) g25 ?_
        refine ga_push C eX6_anHour_167 ?_
        obtain ⟨g26, hf⟩ := gg_some hf
        obtain ⟨M27, x1_27, hx, hf⟩ := gb2_some hf
        have kx27 : ga_W X M27 238 [some (.inr (some 100)), some (.inl x1_27), some (.inl v2)] [] := by
          refine ga_ii2 C eX6_anHour_238 ?_
          refine ga_goto C eX6_anHour_241 ?_
          refine ga_forget [true, true, true] rfl ?_
          exact ih _ _ _ _ _ hf kx
        clear hf
        have hf := hx
        refine ga_icmp_eq C eX6_anHour_168 g26 (by decide) (fun hc => ?_) (fun hc => ?_)
        · rw [if_pos hc] at hf
          refine ga_al0 C eX6_anHour_174 ?_
          refine ga_getR C hK eX6_anHour_175 lRX6_56 rfl rfl ?_
          refine ga_il2 C eX6_anHour_178 ?_
          refine ga_dup2 C eX6_anHour_179 ?_
          refine ga_iald C hK eX6_anHour_180 rfl (by decide) g25 ?_
          refine ga_al0 C eX6_anHour_181 ?_
          refine ga_getR C hK eX6_anHour_182 lRX6_26 rfl rfl ?_
          refine ga_push C eX6_anHour_185 ?_
          refine ga_al0 C eX6_anHour_188 ?_
          refine ga_getR C hK eX6_anHour_189 lRX6_50 rfl rfl ?_
          refine ga_il2 C eX6_anHour_192 ?_
          refine ga_iald C hK eX6_anHour_193 rfl (by decide) g25 ?_
          refine ga_imul C eX6_anHour_194 ?_
          refine ga_al0 C eX6_anHour_195 ?_
          refine ga_getI C hK eX6_anHour_196 lRX6_130 rfl rfl ?_
          refine ga_iadd C eX6_anHour_199 ?_
          obtain ⟨g28, hf⟩ := gg_some hf
          refine ga_iald C hK eX6_anHour_200 rfl (by decide) g28 ?_
          refine ga_iadd C eX6_anHour_201 ?_
          obtain ⟨M29, q29, hf⟩ := gB_some hf
          refine ga_iast C hK eX6_anHour_202 rfl (by decide) g25 q29 ?_
          refine ga_al0 C eX6_anHour_203 ?_
          refine ga_getI C hK eX6_anHour_204 lRX6_130 rfl rfl ?_
          refine ga_push C eX6_anHour_207 ?_
          refine ga_iadd C eX6_anHour_208 ?_
          refine ga_al0 C eX6_anHour_209 ?_
          refine ga_getR C hK eX6_anHour_210 lRX6_53 rfl rfl ?_
          refine ga_il2 C eX6_anHour_213 ?_
          refine ga_iald C hK eX6_anHour_214 rfl (by decide) g25 ?_
          refine ga_al0 C eX6_anHour_215 ?_
          refine ga_getR C hK eX6_anHour_216 lRX6_35 rfl rfl ?_
          refine ga_il2 C eX6_anHour_219 ?_
          refine ga_iald C hK eX6_anHour_220 rfl (by decide) g25 ?_
          refine ga_iadd C eX6_anHour_221 ?_
          obtain ⟨g30, hf⟩ := gg_some hf
          obtain ⟨g31, hf⟩ := gg_some hf
          refine ga_icmp_ge C eX6_anHour_222 g30 g31 (fun hc => ?_) (fun hc => ?_)
          · rw [if_pos hc] at hf
            refine ga_goto C eX6_anHour_225 ?_
            cases hf
            exact ga_forget [true, true, true] rfl kx27
          · rw [if_neg hc] at hf
            refine ga_al0 C eX6_anHour_228 ?_
            refine ga_getR C hK eX6_anHour_229 lRX6_47 rfl rfl ?_
            refine ga_il2 C eX6_anHour_232 ?_
            refine ga_push C eX6_anHour_233 ?_
            obtain ⟨M32, q32, hf⟩ := gB_some hf
            refine ga_iast C hK eX6_anHour_234 rfl (by decide) g25 q32 ?_
            refine ga_ii1 C eX6_anHour_235 ?_
            cases hf
            exact ga_forget [true, true, true] rfl kx27
        · rw [if_neg hc] at hf
          refine ga_goto C eX6_anHour_171 ?_
          cases hf
          exact ga_forget [true, true, true] rfl kx27
      · rw [if_neg hc] at hf
        cases hf
        exact ga_forget [true, true, false] rfl kx
  obtain ⟨M22, x1_22, hl22, hf⟩ := gb2_some hf
  refine ga_forget [true, true, true] rfl ?_
  refine L153 G _ _ _ _ _ hl22 ?_
  refine ga_al0 C eX6_anHour_244 ?_
  refine ga_dup C eX6_anHour_245 ?_
  refine ga_getI C hK eX6_anHour_246 lRX6_130 rfl rfl ?_
  refine ga_push C eX6_anHour_249 ?_
  refine ga_iadd C eX6_anHour_250 ?_
  obtain ⟨M33, q33, hf⟩ := gB_some hf
  refine ga_putI C hK eX6_anHour_251 lRX6_130 (by intro q hq; cases hq; exact ⟨rfl, rfl⟩) rfl rfl q33 ?_
  refine ga_il1 C eX6_anHour_254 ?_
  exact ga_iretW C T eX6_anHour_255 hf

set_option maxRecDepth 20000 in
set_option maxHeartbeats 4000000 in
theorem t_X6_pass {n e cp G : Nat} (hg : gh n e cp) {M Mz : gaM} {v1 : Int} {rz : Int}  (hf : f_X6_pass G n M v1 = some (rz, Mz)) : ga_Met yX6_pass cX6_pass 4 (some .int) 4 (gk n e cp) M [.inr (some 100), .inl v1] (some (.inl rz)) Mz := by
  refine ga_met (by decide) rfl (Nat.le_of_ble_eq_true rfl) ?_
  intro X C hK T
  show ga_W X M 0 [some (.inr (some 100)), some (.inl v1), none, none] []
  unfold f_X6_pass at hf
  refine ga_al0 C eX6_pass_0 ?_
  refine ga_push C eX6_pass_1 ?_
  obtain ⟨M1, q1, hf⟩ := gB_some hf
  refine ga_putI C hK eX6_pass_2 lRX6_1 (by intro q hq; cases hq; exact ⟨rfl, rfl⟩) rfl rfl q1 ?_
  refine ga_il1 C eX6_pass_5 ?_
  refine ga_push C eX6_pass_6 ?_
  refine ga_push C eX6_pass_7 ?_
  obtain ⟨r2, c2, hf⟩ := gb_some hf
  refine ga_cS3 C hK eX6_pass_9 nRX6_108 mX6_in sX6_in (t_X6_in hg c2) (by decide) (Nat.le_of_ble_eq_true rfl) ?_
  obtain ⟨g3, hf⟩ := gg_some hf
  refine ga_if_ne C eX6_pass_12 g3 (fun hc => ?_) (fun hc => ?_)
  · rw [if_pos hc] at hf
    refine ga_al0 C eX6_pass_15 ?_
    refine ga_push C eX6_pass_16 ?_
    obtain ⟨r4, M4, c4, hf⟩ := gb2_some hf
    refine ga_cV1 C hK eX6_pass_17 nRX6_112 mX6_refused vX6_refused rfl (t_X6_refused hg c4) (by decide) (Nat.le_of_ble_eq_true rfl) ?_
    exact ga_iretW C T eX6_pass_20 hf
  · rw [if_neg hc] at hf
    refine ga_al0 C eX6_pass_21 ?_
    refine ga_getI C hK eX6_pass_22 lRX6_130 rfl rfl ?_
    refine ga_il1 C eX6_pass_25 ?_
    refine ga_iadd C eX6_pass_26 ?_
    refine ga_push C eX6_pass_27 ?_
    obtain ⟨g5, hf⟩ := gg_some hf
    refine ga_icmp_le C eX6_pass_30 g5 (by decide) (fun hc => ?_) (fun hc => ?_)
    · rw [if_pos hc] at hf
      refine ga_al0 C eX6_pass_33 ?_
      refine ga_push C eX6_pass_34 ?_
      obtain ⟨r6, M6, c6, hf⟩ := gb2_some hf
      refine ga_cV1 C hK eX6_pass_35 nRX6_112 mX6_refused vX6_refused rfl (t_X6_refused hg c6) (by decide) (Nat.le_of_ble_eq_true rfl) ?_
      exact ga_iretW C T eX6_pass_38 hf
    · rw [if_neg hc] at hf
      refine ga_push C eX6_pass_39 ?_
      refine ga_is2 C eX6_pass_40 ?_
      refine ga_push C eX6_pass_41 ?_
      refine ga_is3 C eX6_pass_42 ?_
      have L43 : ∀ (F : Nat) (M : gaM) (v1 : Int) (v2 : Int) (v3 : Int) (M7 : gaM) (x2_7 : Int), l_X6_pass_43 G n F M v1 v2 v3 = some (M7, x2_7) → ga_W X M7 61 [some (.inr (some 100)), none, some (.inl x2_7), none] [] → ga_W X M 43 [some (.inr (some 100)), some (.inl v1), some (.inl v2), some (.inl v3)] [] := by
        intro F
        induction F with
        | zero =>
          intro M v1 v2 v3 M7 x2_7 hf kx
          cases hf
        | succ F ih =>
          intro M v1 v2 v3 M7 x2_7 hf kx
          rw [l_X6_pass_43] at hf
          refine ga_il3 C eX6_pass_43 ?_
          refine ga_il1 C eX6_pass_44 ?_
          obtain ⟨g8, hf⟩ := gg_some hf
          obtain ⟨g9, hf⟩ := gg_some hf
          refine ga_icmp_ge C eX6_pass_45 g8 g9 (fun hc => ?_) (fun hc => ?_)
          · rw [if_pos hc] at hf
            refine ga_il2 C eX6_pass_48 ?_
            refine ga_al0 C eX6_pass_49 ?_
            obtain ⟨r10, M10, c10, hf⟩ := gb2_some hf
            refine ga_cV0 C hK eX6_pass_50 nRX6_184 mX6_anHour vX6_anHour rfl (t_X6_anHour hg c10) (by decide) (Nat.le_of_ble_eq_true rfl) ?_
            refine ga_iadd C eX6_pass_53 ?_
            refine ga_is2 C eX6_pass_54 ?_
            refine ga_ii3 C eX6_pass_55 ?_
            refine ga_goto C eX6_pass_58 ?_
            refine ga_forget [true, true, true, true] rfl ?_
            exact ih _ _ _ _ _ _ hf kx
          · rw [if_neg hc] at hf
            cases hf
            exact ga_forget [true, false, true, false] rfl kx
      obtain ⟨M7, x2_7, hl7, hf⟩ := gb2_some hf
      refine ga_forget [true, true, true, true] rfl ?_
      refine L43 G _ _ _ _ _ _ hl7 ?_
      refine ga_al0 C eX6_pass_61 ?_
      refine ga_il2 C eX6_pass_62 ?_
      obtain ⟨r11, M11, c11, hf⟩ := gb2_some hf
      refine ga_cV1 C hK eX6_pass_63 nRX6_116 mX6_done vX6_done rfl (t_X6_done hg c11) (by decide) (Nat.le_of_ble_eq_true rfl) ?_
      exact ga_iretW C T eX6_pass_66 hf

set_option maxRecDepth 20000 in
set_option maxHeartbeats 4000000 in
theorem t_X6_delay {n e cp G : Nat} (hg : gh n e cp) {M Mz : gaM} {v1 : Int} {rz : Int}  (hf : f_X6_delay G n M v1 = some (rz, Mz)) : ga_Met yX6_delay cX6_delay 2 (some .int) 1 (gk n e cp) M [.inr (some 100), .inl v1] (some (.inl rz)) Mz := by
  refine ga_met (by decide) rfl (Nat.le_of_ble_eq_true rfl) ?_
  intro X C hK T
  show ga_W X M 0 [some (.inr (some 100)), some (.inl v1)] []
  unfold f_X6_delay at hf
  refine ga_al0 C eX6_delay_0 ?_
  refine ga_push C eX6_delay_1 ?_
  obtain ⟨M1, q1, hf⟩ := gB_some hf
  refine ga_putI C hK eX6_delay_2 lRX6_1 (by intro q hq; cases hq; exact ⟨rfl, rfl⟩) rfl rfl q1 ?_
  refine ga_il1 C eX6_delay_5 ?_
  refine ga_push C eX6_delay_6 ?_
  refine ga_push C eX6_delay_7 ?_
  obtain ⟨r2, c2, hf⟩ := gb_some hf
  refine ga_cS3 C hK eX6_delay_8 nRX6_108 mX6_in sX6_in (t_X6_in hg c2) (by decide) (Nat.le_of_ble_eq_true rfl) ?_
  obtain ⟨g3, hf⟩ := gg_some hf
  refine ga_if_eq C eX6_delay_11 g3 (fun hc => ?_) (fun hc => ?_)
  · rw [if_pos hc] at hf
    refine ga_push C eX6_delay_22 ?_
    exact ga_iretW C T eX6_delay_23 hf
  · rw [if_neg hc] at hf
    refine ga_al0 C eX6_delay_14 ?_
    refine ga_il1 C eX6_delay_15 ?_
    obtain ⟨r4, c4, hf⟩ := gb_some hf
    refine ga_cV1 C hK eX6_delay_16 nRX6_140 mX6_delayOf vX6_delayOf rfl (t_X6_delayOf hg c4) (by decide) (Nat.le_of_ble_eq_true rfl) ?_
    refine ga_goto C eX6_delay_19 ?_
    exact ga_iretW C T eX6_delay_23 hf

set_option maxRecDepth 20000 in
set_option maxHeartbeats 4000000 in
theorem t_X6_behind {n e cp G : Nat} (hg : gh n e cp) {M Mz : gaM} {v1 : Int} {rz : Int}  (hf : f_X6_behind G n M v1 = some (rz, Mz)) : ga_Met yX6_behind cX6_behind 2 (some .int) 1 (gk n e cp) M [.inr (some 100), .inl v1] (some (.inl rz)) Mz := by
  refine ga_met (by decide) rfl (Nat.le_of_ble_eq_true rfl) ?_
  intro X C hK T
  show ga_W X M 0 [some (.inr (some 100)), some (.inl v1)] []
  unfold f_X6_behind at hf
  refine ga_al0 C eX6_behind_0 ?_
  refine ga_push C eX6_behind_1 ?_
  obtain ⟨M1, q1, hf⟩ := gB_some hf
  refine ga_putI C hK eX6_behind_2 lRX6_1 (by intro q hq; cases hq; exact ⟨rfl, rfl⟩) rfl rfl q1 ?_
  refine ga_il1 C eX6_behind_5 ?_
  refine ga_push C eX6_behind_6 ?_
  refine ga_push C eX6_behind_7 ?_
  obtain ⟨r2, c2, hf⟩ := gb_some hf
  refine ga_cS3 C hK eX6_behind_8 nRX6_108 mX6_in sX6_in (t_X6_in hg c2) (by decide) (Nat.le_of_ble_eq_true rfl) ?_
  obtain ⟨g3, hf⟩ := gg_some hf
  refine ga_if_eq C eX6_behind_11 g3 (fun hc => ?_) (fun hc => ?_)
  · rw [if_pos hc] at hf
    refine ga_push C eX6_behind_34 ?_
    exact ga_iretW C T eX6_behind_35 hf
  · rw [if_neg hc] at hf
    refine ga_al0 C eX6_behind_14 ?_
    refine ga_il1 C eX6_behind_15 ?_
    obtain ⟨r4, c4, hf⟩ := gb_some hf
    refine ga_cV1 C hK eX6_behind_16 nRX6_140 mX6_delayOf vX6_delayOf rfl (t_X6_delayOf hg c4) (by decide) (Nat.le_of_ble_eq_true rfl) ?_
    refine ga_al0 C eX6_behind_19 ?_
    refine ga_getI C hK eX6_behind_20 lRX6_16 rfl rfl ?_
    obtain ⟨g5, hf⟩ := gg_some hf
    obtain ⟨g6, hf⟩ := gg_some hf
    refine ga_icmp_le C eX6_behind_23 g5 g6 (fun hc => ?_) (fun hc => ?_)
    · rw [if_pos hc] at hf
      refine ga_push C eX6_behind_26 ?_
      refine ga_goto C eX6_behind_27 ?_
      exact ga_iretW C T eX6_behind_35 hf
    · rw [if_neg hc] at hf
      refine ga_push C eX6_behind_30 ?_
      refine ga_goto C eX6_behind_31 ?_
      exact ga_iretW C T eX6_behind_35 hf

set_option maxRecDepth 20000 in
set_option maxHeartbeats 4000000 in
theorem t_X6_homeCost {n e cp G : Nat} (hg : gh n e cp) {M : gaM} {rz : Int}  (hf : f_X6_homeCost G n M = some rz) : ga_Met yX6_homeCost cX6_homeCost 3 (some .int) 1 (gk n e cp) M [.inr (some 100)] (some (.inl rz)) M := by
  refine ga_met (by decide) rfl (Nat.le_of_ble_eq_true rfl) ?_
  intro X C hK T
  show ga_W X M 0 [some (.inr (some 100)), none, none] []
  unfold f_X6_homeCost at hf
  refine ga_push C eX6_homeCost_0 ?_
  refine ga_is1 C eX6_homeCost_1 ?_
  refine ga_push C eX6_homeCost_2 ?_
  refine ga_is2 C eX6_homeCost_3 ?_
  have L4 : ∀ (F : Nat) (v1 : Int) (v2 : Int) (x1_1 : Int), l_X6_homeCost_4 G n M F v1 v2 = some x1_1 → ga_W X M 52 [none, some (.inl x1_1), none] [] → ga_W X M 4 [some (.inr (some 100)), some (.inl v1), some (.inl v2)] [] := by
    intro F
    induction F with
    | zero =>
      intro v1 v2 x1_1 hf kx
      cases hf
    | succ F ih =>
      intro v1 v2 x1_1 hf kx
      rw [l_X6_homeCost_4] at hf
      refine ga_il2 C eX6_homeCost_4 ?_
      refine ga_al0 C eX6_homeCost_5 ?_
      refine ga_getI C hK eX6_homeCost_6 lRX6_105 rfl rfl ?_
      obtain ⟨g2, hf⟩ := gg_some hf
      obtain ⟨g3, hf⟩ := gg_some hf
      refine ga_icmp_ge C eX6_homeCost_9 g2 g3 (fun hc => ?_) (fun hc => ?_)
      · rw [if_pos hc] at hf
        refine ga_il1 C eX6_homeCost_12 ?_
        refine ga_al0 C eX6_homeCost_13 ?_
        refine ga_getR C hK eX6_homeCost_14 lRX6_47 rfl rfl ?_
        refine ga_il2 C eX6_homeCost_17 ?_
        obtain ⟨g4, hf⟩ := gg_some hf
        refine ga_iald C hK eX6_homeCost_18 rfl (by decide) g4 ?_
        refine ga_push C eX6_homeCost_19 ?_
        obtain ⟨g5, hf⟩ := gg_some hf
        obtain ⟨s0_6, hx, hf⟩ := gb_some hf
        have kx6 : ga_W X M 44 [some (.inr (some 100)), none, some (.inl v2)] [.inl s0_6, .inl v1] := by
          refine ga_iadd C eX6_homeCost_44 ?_
          refine ga_is1 C eX6_homeCost_45 ?_
          refine ga_ii2 C eX6_homeCost_46 ?_
          refine ga_goto C eX6_homeCost_49 ?_
          refine ga_forget [true, true, true] rfl ?_
          exact ih _ _ _ hf kx
        clear hf
        have hf := hx
        refine ga_icmp_ne C eX6_homeCost_20 g5 (by decide) (fun hc => ?_) (fun hc => ?_)
        · rw [if_pos hc] at hf
          refine ga_al0 C eX6_homeCost_23 ?_
          refine ga_il2 C eX6_homeCost_24 ?_
          refine ga_al0 C eX6_homeCost_25 ?_
          refine ga_getR C hK eX6_homeCost_26 lRX6_32 rfl rfl ?_
          refine ga_il2 C eX6_homeCost_29 ?_
          refine ga_iald C hK eX6_homeCost_30 rfl (by decide) g4 ?_
          refine ga_al0 C eX6_homeCost_31 ?_
          refine ga_getR C hK eX6_homeCost_32 lRX6_38 rfl rfl ?_
          refine ga_il2 C eX6_homeCost_35 ?_
          refine ga_iald C hK eX6_homeCost_36 rfl (by decide) g4 ?_
          obtain ⟨r7, c7, hf⟩ := gb_some hf
          refine ga_cV3 C hK eX6_homeCost_37 nRX6_166 mX6_costOf vX6_costOf rfl (t_X6_costOf hg c7) (by decide) (Nat.le_of_ble_eq_true rfl) ?_
          refine ga_goto C eX6_homeCost_40 ?_
          cases hf
          exact ga_forget [true, false, true] rfl kx6
        · rw [if_neg hc] at hf
          refine ga_push C eX6_homeCost_43 ?_
          cases hf
          exact ga_forget [true, false, true] rfl kx6
      · rw [if_neg hc] at hf
        cases hf
        exact ga_forget [false, true, false] rfl kx
  obtain ⟨x1_1, hl1, hf⟩ := gb_some hf
  refine ga_forget [true, true, true] rfl ?_
  refine L4 G _ _ _ hl1 ?_
  refine ga_il1 C eX6_homeCost_52 ?_
  exact ga_iret0 C T eX6_homeCost_53 hf

set_option maxRecDepth 20000 in
set_option maxHeartbeats 4000000 in
theorem t_X6_paid {n e cp G : Nat} (hg : gh n e cp) {M Mz : gaM} {rz : Int}  (hf : f_X6_paid G n M = some (rz, Mz)) : ga_Met yX6_paid cX6_paid 3 (some .int) 0 (gk n e cp) M [.inr (some 100)] (some (.inl rz)) Mz := by
  refine ga_met (by decide) rfl (Nat.le_of_ble_eq_true rfl) ?_
  intro X C hK T
  show ga_W X M 0 [some (.inr (some 100)), none, none] []
  unfold f_X6_paid at hf
  refine ga_al0 C eX6_paid_0 ?_
  refine ga_push C eX6_paid_1 ?_
  obtain ⟨M1, q1, hf⟩ := gB_some hf
  refine ga_putI C hK eX6_paid_2 lRX6_1 (by intro q hq; cases hq; exact ⟨rfl, rfl⟩) rfl rfl q1 ?_
  refine ga_push C eX6_paid_5 ?_
  refine ga_is1 C eX6_paid_6 ?_
  refine ga_push C eX6_paid_7 ?_
  refine ga_is2 C eX6_paid_8 ?_
  have L9 : ∀ (F : Nat) (M : gaM) (v1 : Int) (v2 : Int) (x1_2 : Int), l_X6_paid_9 G n F M v1 v2 = some x1_2 → ga_W X M 32 [none, some (.inl x1_2), none] [] → ga_W X M 9 [some (.inr (some 100)), some (.inl v1), some (.inl v2)] [] := by
    intro F
    induction F with
    | zero =>
      intro M v1 v2 x1_2 hf kx
      cases hf
    | succ F ih =>
      intro M v1 v2 x1_2 hf kx
      rw [l_X6_paid_9] at hf
      refine ga_il2 C eX6_paid_9 ?_
      refine ga_al0 C eX6_paid_10 ?_
      refine ga_getI C hK eX6_paid_11 lRX6_105 rfl rfl ?_
      obtain ⟨g3, hf⟩ := gg_some hf
      obtain ⟨g4, hf⟩ := gg_some hf
      refine ga_icmp_ge C eX6_paid_14 g3 g4 (fun hc => ?_) (fun hc => ?_)
      · rw [if_pos hc] at hf
        refine ga_il1 C eX6_paid_17 ?_
        refine ga_al0 C eX6_paid_18 ?_
        refine ga_getR C hK eX6_paid_19 lRX6_56 rfl rfl ?_
        refine ga_il2 C eX6_paid_22 ?_
        obtain ⟨g5, hf⟩ := gg_some hf
        refine ga_iald C hK eX6_paid_23 rfl (by decide) g5 ?_
        refine ga_iadd C eX6_paid_24 ?_
        refine ga_is1 C eX6_paid_25 ?_
        refine ga_ii2 C eX6_paid_26 ?_
        refine ga_goto C eX6_paid_29 ?_
        refine ga_forget [true, true, true] rfl ?_
        exact ih _ _ _ _ hf kx
      · rw [if_neg hc] at hf
        cases hf
        exact ga_forget [false, true, false] rfl kx
  obtain ⟨x1_2, hl2, hf⟩ := gb_some hf
  refine ga_forget [true, true, true] rfl ?_
  refine L9 G _ _ _ _ hl2 ?_
  refine ga_il1 C eX6_paid_32 ?_
  exact ga_iretW C T eX6_paid_33 hf

set_option maxRecDepth 20000 in
set_option maxHeartbeats 4000000 in
theorem t_X6_atOnce {n e cp G : Nat} (hg : gh n e cp) {M Mz : gaM} {rz : Int}  (hf : f_X6_atOnce G n M = some (rz, Mz)) : ga_Met yX6_atOnce cX6_atOnce 1 (some .int) 2 (gk n e cp) M [.inr (some 100)] (some (.inl rz)) Mz := by
  refine ga_met (by decide) rfl (Nat.le_of_ble_eq_true rfl) ?_
  intro X C hK T
  show ga_W X M 0 [some (.inr (some 100))] []
  unfold f_X6_atOnce at hf
  refine ga_al0 C eX6_atOnce_0 ?_
  refine ga_push C eX6_atOnce_1 ?_
  obtain ⟨M1, q1, hf⟩ := gB_some hf
  refine ga_putI C hK eX6_atOnce_2 lRX6_1 (by intro q hq; cases hq; exact ⟨rfl, rfl⟩) rfl rfl q1 ?_
  refine ga_al0 C eX6_atOnce_5 ?_
  obtain ⟨r2, c2, hf⟩ := gb_some hf
  refine ga_cV0 C hK eX6_atOnce_6 nRX6_188 mX6_homeCost vX6_homeCost rfl (t_X6_homeCost hg c2) (by decide) (Nat.le_of_ble_eq_true rfl) ?_
  exact ga_iretW C T eX6_atOnce_9 hf

set_option maxRecDepth 20000 in
set_option maxHeartbeats 4000000 in
theorem t_X6_saved {n e cp G : Nat} (hg : gh n e cp) {M Mz : gaM} {rz : Int}  (hf : f_X6_saved G n M = some (rz, Mz)) : ga_Met yX6_saved cX6_saved 3 (some .int) 2 (gk n e cp) M [.inr (some 100)] (some (.inl rz)) Mz := by
  refine ga_met (by decide) rfl (Nat.le_of_ble_eq_true rfl) ?_
  intro X C hK T
  show ga_W X M 0 [some (.inr (some 100)), none, none] []
  unfold f_X6_saved at hf
  refine ga_al0 C eX6_saved_0 ?_
  refine ga_push C eX6_saved_1 ?_
  obtain ⟨M1, q1, hf⟩ := gB_some hf
  refine ga_putI C hK eX6_saved_2 lRX6_1 (by intro q hq; cases hq; exact ⟨rfl, rfl⟩) rfl rfl q1 ?_
  refine ga_al0 C eX6_saved_5 ?_
  obtain ⟨r2, c2, hf⟩ := gb_some hf
  refine ga_cV0 C hK eX6_saved_6 nRX6_188 mX6_homeCost vX6_homeCost rfl (t_X6_homeCost hg c2) (by decide) (Nat.le_of_ble_eq_true rfl) ?_
  refine ga_is1 C eX6_saved_9 ?_
  refine ga_push C eX6_saved_10 ?_
  refine ga_is2 C eX6_saved_11 ?_
  have L12 : ∀ (F : Nat) (M : gaM) (v1 : Int) (v2 : Int) (x1_3 : Int), l_X6_saved_12 G n F M v1 v2 = some x1_3 → ga_W X M 49 [none, some (.inl x1_3), none] [] → ga_W X M 12 [some (.inr (some 100)), some (.inl v1), some (.inl v2)] [] := by
    intro F
    induction F with
    | zero =>
      intro M v1 v2 x1_3 hf kx
      cases hf
    | succ F ih =>
      intro M v1 v2 x1_3 hf kx
      rw [l_X6_saved_12] at hf
      refine ga_il2 C eX6_saved_12 ?_
      refine ga_al0 C eX6_saved_13 ?_
      refine ga_getI C hK eX6_saved_14 lRX6_105 rfl rfl ?_
      obtain ⟨g4, hf⟩ := gg_some hf
      obtain ⟨g5, hf⟩ := gg_some hf
      refine ga_icmp_ge C eX6_saved_17 g4 g5 (fun hc => ?_) (fun hc => ?_)
      · rw [if_pos hc] at hf
        refine ga_il1 C eX6_saved_20 ?_
        refine ga_al0 C eX6_saved_21 ?_
        refine ga_getR C hK eX6_saved_22 lRX6_47 rfl rfl ?_
        refine ga_il2 C eX6_saved_25 ?_
        obtain ⟨g6, hf⟩ := gg_some hf
        refine ga_iald C hK eX6_saved_26 rfl (by decide) g6 ?_
        refine ga_push C eX6_saved_27 ?_
        obtain ⟨g7, hf⟩ := gg_some hf
        obtain ⟨s0_8, hx, hf⟩ := gb_some hf
        have kx8 : ga_W X M 41 [some (.inr (some 100)), none, some (.inl v2)] [.inl s0_8, .inl v1] := by
          refine ga_isub C eX6_saved_41 ?_
          refine ga_is1 C eX6_saved_42 ?_
          refine ga_ii2 C eX6_saved_43 ?_
          refine ga_goto C eX6_saved_46 ?_
          refine ga_forget [true, true, true] rfl ?_
          exact ih _ _ _ _ hf kx
        clear hf
        have hf := hx
        refine ga_icmp_ne C eX6_saved_28 g7 (by decide) (fun hc => ?_) (fun hc => ?_)
        · rw [if_pos hc] at hf
          refine ga_al0 C eX6_saved_31 ?_
          refine ga_getR C hK eX6_saved_32 lRX6_56 rfl rfl ?_
          refine ga_il2 C eX6_saved_35 ?_
          refine ga_iald C hK eX6_saved_36 rfl (by decide) g6 ?_
          refine ga_goto C eX6_saved_37 ?_
          cases hf
          exact ga_forget [true, false, true] rfl kx8
        · rw [if_neg hc] at hf
          refine ga_push C eX6_saved_40 ?_
          cases hf
          exact ga_forget [true, false, true] rfl kx8
      · rw [if_neg hc] at hf
        cases hf
        exact ga_forget [false, true, false] rfl kx
  obtain ⟨x1_3, hl3, hf⟩ := gb_some hf
  refine ga_forget [true, true, true] rfl ?_
  refine L12 G _ _ _ _ hl3 ?_
  refine ga_il1 C eX6_saved_49 ?_
  exact ga_iretW C T eX6_saved_50 hf

set_option maxRecDepth 20000 in
set_option maxHeartbeats 4000000 in
theorem t_X6_regretOf {n e cp G : Nat} (hg : gh n e cp) {M : gaM} {v1 : Int} {rz : Int}  (hf : f_X6_regretOf G n M v1 = some rz) : ga_Met yX6_regretOf cX6_regretOf 5 (some .int) 1 (gk n e cp) M [.inr (some 100), .inl v1] (some (.inl rz)) M := by
  refine ga_met (by decide) rfl (Nat.le_of_ble_eq_true rfl) ?_
  intro X C hK T
  show ga_W X M 0 [some (.inr (some 100)), some (.inl v1), none, none, none] []
  unfold f_X6_regretOf at hf
  refine ga_ldc C kRX6_193 eX6_regretOf_0 ?_
  refine ga_is2 C eX6_regretOf_2 ?_
  refine ga_al0 C eX6_regretOf_3 ?_
  refine ga_getR C hK eX6_regretOf_4 lRX6_38 rfl rfl ?_
  refine ga_il1 C eX6_regretOf_7 ?_
  obtain ⟨g1, hf⟩ := gg_some hf
  refine ga_iald C hK eX6_regretOf_8 rfl (by decide) g1 ?_
  refine ga_is3 C eX6_regretOf_9 ?_
  have L10 : ∀ (F : Nat) (v1 : Int) (v2 : Int) (v3 : Int) (x2_2 : Int), l_X6_regretOf_10 G n M F v1 v2 v3 = some x2_2 → ga_W X M 79 [some (.inr (some 100)), some (.inl v1), some (.inl x2_2), none, none] [] → ga_W X M 10 [some (.inr (some 100)), some (.inl v1), some (.inl v2), some (.inl v3), none] [] := by
    intro F
    induction F with
    | zero =>
      intro v1 v2 v3 x2_2 hf kx
      cases hf
    | succ F ih =>
      intro v1 v2 v3 x2_2 hf kx
      rw [l_X6_regretOf_10] at hf
      refine ga_il3 C eX6_regretOf_10 ?_
      refine ga_al0 C eX6_regretOf_11 ?_
      refine ga_getR C hK eX6_regretOf_12 lRX6_41 rfl rfl ?_
      refine ga_il1 C eX6_regretOf_15 ?_
      obtain ⟨g3, hf⟩ := gg_some hf
      refine ga_iald C hK eX6_regretOf_16 rfl (by decide) g3 ?_
      refine ga_al0 C eX6_regretOf_17 ?_
      refine ga_getR C hK eX6_regretOf_18 lRX6_35 rfl rfl ?_
      refine ga_il1 C eX6_regretOf_21 ?_
      refine ga_iald C hK eX6_regretOf_22 rfl (by decide) g3 ?_
      refine ga_isub C eX6_regretOf_23 ?_
      obtain ⟨g4, hf⟩ := gg_some hf
      obtain ⟨g5, hf⟩ := gg_some hf
      refine ga_icmp_gt C eX6_regretOf_24 g4 g5 (fun hc => ?_) (fun hc => ?_)
      · rw [if_pos hc] at hf
        refine ga_il3 C eX6_regretOf_27 ?_
        refine ga_al0 C eX6_regretOf_28 ?_
        refine ga_getR C hK eX6_regretOf_29 lRX6_35 rfl rfl ?_
        refine ga_il1 C eX6_regretOf_32 ?_
        refine ga_iald C hK eX6_regretOf_33 rfl (by decide) g3 ?_
        refine ga_iadd C eX6_regretOf_34 ?_
        refine ga_al0 C eX6_regretOf_35 ?_
        refine ga_getI C hK eX6_regretOf_36 lRX6_130 rfl rfl ?_
        obtain ⟨g6, hf⟩ := gg_some hf
        obtain ⟨g7, hf⟩ := gg_some hf
        refine ga_icmp_gt C eX6_regretOf_39 g6 g7 (fun hc => ?_) (fun hc => ?_)
        · rw [if_pos hc] at hf
          refine ga_push C eX6_regretOf_42 ?_
          refine ga_is4 C eX6_regretOf_43 ?_
          have L45 : ∀ (F : Nat) (v1 : Int) (v2 : Int) (v3 : Int) (v4 : Int) (x2_8 : Int), l_X6_regretOf_45 G n M F v1 v2 v3 v4 = some x2_8 → ga_W X M 73 [some (.inr (some 100)), some (.inl v1), some (.inl x2_8), some (.inl v3), none] [] → ga_W X M 45 [some (.inr (some 100)), some (.inl v1), some (.inl v2), some (.inl v3), some (.inl v4)] [] := by
            intro F
            induction F with
            | zero =>
              intro v1 v2 v3 v4 x2_8 hf kx
              cases hf
            | succ F ih =>
              intro v1 v2 v3 v4 x2_8 hf kx
              rw [l_X6_regretOf_45] at hf
              refine ga_il4 C eX6_regretOf_45 ?_
              refine ga_al0 C eX6_regretOf_47 ?_
              refine ga_getI C hK eX6_regretOf_48 lRX6_102 rfl rfl ?_
              obtain ⟨g9, hf⟩ := gg_some hf
              obtain ⟨g10, hf⟩ := gg_some hf
              refine ga_icmp_ge C eX6_regretOf_51 g9 g10 (fun hc => ?_) (fun hc => ?_)
              · rw [if_pos hc] at hf
                refine ga_il2 C eX6_regretOf_54 ?_
                refine ga_al0 C eX6_regretOf_55 ?_
                refine ga_il1 C eX6_regretOf_56 ?_
                refine ga_il4 C eX6_regretOf_57 ?_
                refine ga_il3 C eX6_regretOf_59 ?_
                obtain ⟨r11, c11, hf⟩ := gb_some hf
                refine ga_cV3 C hK eX6_regretOf_60 nRX6_166 mX6_costOf vX6_costOf rfl (t_X6_costOf hg c11) (by decide) (Nat.le_of_ble_eq_true rfl) ?_
                obtain ⟨g13, hf⟩ := gg_some hf
                obtain ⟨g14, hf⟩ := gg_some hf
                refine ga_min C eX6_regretOf_63 nRX6_194 (by decide) g13 g14 (Nat.le_of_ble_eq_true rfl) ?_
                refine ga_is2 C eX6_regretOf_66 ?_
                refine ga_ii4 C eX6_regretOf_67 ?_
                refine ga_goto C eX6_regretOf_70 ?_
                refine ga_forget [true, true, true, true, true] rfl ?_
                exact ih _ _ _ _ _ hf kx
              · rw [if_neg hc] at hf
                cases hf
                exact ga_forget [true, true, true, true, false] rfl kx
          obtain ⟨x2_8, hl8, hf⟩ := gb_some hf
          refine ga_forget [true, true, true, true, true] rfl ?_
          refine L45 G _ _ _ _ _ hl8 ?_
          refine ga_ii3 C eX6_regretOf_73 ?_
          refine ga_goto C eX6_regretOf_76 ?_
          refine ga_forget [true, true, true, true, false] rfl ?_
          exact ih _ _ _ _ hf kx
        · rw [if_neg hc] at hf
          cases hf
          exact ga_forget [true, true, true, false, false] rfl kx
      · rw [if_neg hc] at hf
        cases hf
        exact ga_forget [true, true, true, false, false] rfl kx
  obtain ⟨x2_2, hl2, hf⟩ := gb_some hf
  refine ga_forget [true, true, true, true, false] rfl ?_
  refine L10 G _ _ _ _ hl2 ?_
  refine ga_al0 C eX6_regretOf_79 ?_
  refine ga_getR C hK eX6_regretOf_80 lRX6_56 rfl rfl ?_
  refine ga_il1 C eX6_regretOf_83 ?_
  refine ga_iald C hK eX6_regretOf_84 rfl (by decide) g1 ?_
  refine ga_il2 C eX6_regretOf_85 ?_
  refine ga_isub C eX6_regretOf_86 ?_
  exact ga_iret0 C T eX6_regretOf_87 hf


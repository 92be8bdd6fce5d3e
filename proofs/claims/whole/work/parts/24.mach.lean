set_option maxRecDepth 20000 in
set_option maxHeartbeats 4000000 in
theorem t_X5_behind {n e cp G : Nat} (hg : gh n e cp) {M : gaM} {v1 : Int} {rz : Int}  (hf : f_X5_behind G n M v1 = some rz) : ga_Met yX5_behind cX5_behind 2 (some .int) 1 (gk n e cp) M [.inr (some 0), .inl v1] (some (.inl rz)) M := by
  refine ga_met (by decide) rfl (Nat.le_of_ble_eq_true rfl) ?_
  intro X C hK T
  show ga_W X M 0 [some (.inr (some 0)), some (.inl v1)] []
  unfold f_X5_behind at hf
  refine ga_il1 C eX5_behind_0 ?_
  refine ga_push C eX5_behind_1 ?_
  refine ga_push C eX5_behind_2 ?_
  obtain ⟨r1, c1, hf⟩ := gb_some hf
  refine ga_cS3 C hK eX5_behind_3 nRX5_71 mX5_within sX5_within (t_X5_within hg c1) (by decide) (Nat.le_of_ble_eq_true rfl) ?_
  obtain ⟨g2, hf⟩ := gg_some hf
  refine ga_if_ne C eX5_behind_6 g2 (fun hc => ?_) (fun hc => ?_)
  · rw [if_pos hc] at hf
    refine ga_push C eX5_behind_9 ?_
    exact ga_iret0 C T eX5_behind_10 hf
  · rw [if_neg hc] at hf
    refine ga_al0 C eX5_behind_11 ?_
    refine ga_il1 C eX5_behind_12 ?_
    obtain ⟨r3, c3, hf⟩ := gb_some hf
    refine ga_cV1 C hK eX5_behind_13 nRX5_156 mX5_isBehind vX5_isBehind rfl (t_X5_isBehind hg c3) (by decide) (Nat.le_of_ble_eq_true rfl) ?_
    obtain ⟨g4, hf⟩ := gg_some hf
    refine ga_if_eq C eX5_behind_16 g4 (fun hc => ?_) (fun hc => ?_)
    · rw [if_pos hc] at hf
      refine ga_push C eX5_behind_23 ?_
      exact ga_iret0 C T eX5_behind_24 hf
    · rw [if_neg hc] at hf
      refine ga_push C eX5_behind_19 ?_
      refine ga_goto C eX5_behind_20 ?_
      exact ga_iret0 C T eX5_behind_24 hf

set_option maxRecDepth 20000 in
set_option maxHeartbeats 4000000 in
theorem t_X5_paid {n e cp G : Nat} (hg : gh n e cp) {M : gaM} {rz : Int}  (hf : f_X5_paid G n M = some rz) : ga_Met yX5_paid cX5_paid 3 (some .int) 4 (gk n e cp) M [.inr (some 0)] (some (.inl rz)) M := by
  refine ga_met (by decide) rfl (Nat.le_of_ble_eq_true rfl) ?_
  intro X C hK T
  show ga_W X M 0 [some (.inr (some 0)), none, none] []
  unfold f_X5_paid at hf
  refine ga_push C eX5_paid_0 ?_
  refine ga_is1 C eX5_paid_1 ?_
  refine ga_push C eX5_paid_2 ?_
  refine ga_is2 C eX5_paid_3 ?_
  have L4 : ∀ (F : Nat) (v1 : Int) (v2 : Int) (x1_1 : Int), l_X5_paid_4 G n M F v1 v2 = some x1_1 → ga_W X M 38 [none, some (.inl x1_1), none] [] → ga_W X M 4 [some (.inr (some 0)), some (.inl v1), some (.inl v2)] [] := by
    intro F
    induction F with
    | zero =>
      intro v1 v2 x1_1 hf kx
      cases hf
    | succ F ih =>
      intro v1 v2 x1_1 hf kx
      rw [l_X5_paid_4] at hf
      refine ga_il2 C eX5_paid_4 ?_
      refine ga_al0 C eX5_paid_5 ?_
      refine ga_getR C hK eX5_paid_6 lRX5_19 rfl rfl ?_
      obtain ⟨r2, c2, hf⟩ := gb_some hf
      refine ga_cV0 C hK eX5_paid_9 nRX5_109 mJx4a65c_size_8abf5 vJx4a65c_size_8abf5 rfl (t_Jx4a65c_size_8abf5 hg c2) (by decide) (Nat.le_of_ble_eq_true rfl) ?_
      obtain ⟨g3, hf⟩ := gg_some hf
      obtain ⟨g4, hf⟩ := gg_some hf
      refine ga_icmp_ge C eX5_paid_12 g3 g4 (fun hc => ?_) (fun hc => ?_)
      · rw [if_pos hc] at hf
        refine ga_il1 C eX5_paid_15 ?_
        refine ga_al0 C eX5_paid_16 ?_
        refine ga_getR C hK eX5_paid_17 lRX5_19 rfl rfl ?_
        refine ga_il2 C eX5_paid_20 ?_
        obtain ⟨r5, c5, hf⟩ := gb_some hf
        have k5 := gk_get (e := e) (cp := cp) c5
        refine ga_cV1 C hK eX5_paid_21 nRX5_116 mJx4a65c_get_915e3 vJx4a65c_get_915e3 rfl (t_get hg c5) (by decide) (Nat.le_of_ble_eq_true rfl) ?_
        refine ga_cast (q := gaT_4) C hK eX5_paid_24 clRX5_101 rfl k5 ?_
        refine ga_getI C hK eX5_paid_27 lRX5_159 k5 rfl ?_
        refine ga_iadd C eX5_paid_30 ?_
        refine ga_is1 C eX5_paid_31 ?_
        refine ga_ii2 C eX5_paid_32 ?_
        refine ga_goto C eX5_paid_35 ?_
        refine ga_forget [true, true, true] rfl ?_
        exact ih _ _ _ hf kx
      · rw [if_neg hc] at hf
        cases hf
        exact ga_forget [false, true, false] rfl kx
  obtain ⟨x1_1, hl1, hf⟩ := gb_some hf
  refine ga_forget [true, true, true] rfl ?_
  refine L4 G _ _ _ hl1 ?_
  refine ga_il1 C eX5_paid_38 ?_
  exact ga_iret0 C T eX5_paid_39 hf

set_option maxRecDepth 20000 in
set_option maxHeartbeats 4000000 in
theorem t_X5_atOnce {n e cp G : Nat} (hg : gh n e cp) {M : gaM} {rz : Int}  (hf : f_X5_atOnce G n M = some rz) : ga_Met yX5_atOnce cX5_atOnce 4 (some .int) 4 (gk n e cp) M [.inr (some 0)] (some (.inl rz)) M := by
  refine ga_met (by decide) rfl (Nat.le_of_ble_eq_true rfl) ?_
  intro X C hK T
  show ga_W X M 0 [some (.inr (some 0)), none, none, none] []
  unfold f_X5_atOnce at hf
  refine ga_push C eX5_atOnce_0 ?_
  refine ga_is1 C eX5_atOnce_1 ?_
  refine ga_push C eX5_atOnce_2 ?_
  refine ga_is2 C eX5_atOnce_3 ?_
  have L4 : ∀ (F : Nat) (v1 : Int) (v2 : Int) (x1_1 : Int), l_X5_atOnce_4 G n M F v1 v2 = some x1_1 → ga_W X M 60 [none, some (.inl x1_1), none, none] [] → ga_W X M 4 [some (.inr (some 0)), some (.inl v1), some (.inl v2), none] [] := by
    intro F
    induction F with
    | zero =>
      intro v1 v2 x1_1 hf kx
      cases hf
    | succ F ih =>
      intro v1 v2 x1_1 hf kx
      rw [l_X5_atOnce_4] at hf
      refine ga_il2 C eX5_atOnce_4 ?_
      refine ga_al0 C eX5_atOnce_5 ?_
      refine ga_getR C hK eX5_atOnce_6 lRX5_19 rfl rfl ?_
      obtain ⟨r2, c2, hf⟩ := gb_some hf
      refine ga_cV0 C hK eX5_atOnce_9 nRX5_109 mJx4a65c_size_8abf5 vJx4a65c_size_8abf5 rfl (t_Jx4a65c_size_8abf5 hg c2) (by decide) (Nat.le_of_ble_eq_true rfl) ?_
      obtain ⟨g3, hf⟩ := gg_some hf
      obtain ⟨g4, hf⟩ := gg_some hf
      refine ga_icmp_ge C eX5_atOnce_12 g3 g4 (fun hc => ?_) (fun hc => ?_)
      · rw [if_pos hc] at hf
        refine ga_al0 C eX5_atOnce_15 ?_
        refine ga_getR C hK eX5_atOnce_16 lRX5_19 rfl rfl ?_
        refine ga_il2 C eX5_atOnce_19 ?_
        obtain ⟨r5, c5, hf⟩ := gb_some hf
        have k5 := gk_get (e := e) (cp := cp) c5
        refine ga_cV1 C hK eX5_atOnce_20 nRX5_116 mJx4a65c_get_915e3 vJx4a65c_get_915e3 rfl (t_get hg c5) (by decide) (Nat.le_of_ble_eq_true rfl) ?_
        refine ga_cast (q := gaT_4) C hK eX5_atOnce_23 clRX5_101 rfl k5 ?_
        refine ga_as3 C eX5_atOnce_26 ?_
        refine ga_al3 C eX5_atOnce_27 ?_
        refine ga_getI C hK eX5_atOnce_28 lRX5_120 k5 rfl ?_
        refine ga_push C eX5_atOnce_31 ?_
        obtain ⟨g6, hf⟩ := gg_some hf
        obtain ⟨x1_7, hx, hf⟩ := gb_some hf
        have kx7 : ga_W X M 54 [some (.inr (some 0)), some (.inl x1_7), some (.inl v2), none] [] := by
          refine ga_ii2 C eX5_atOnce_54 ?_
          refine ga_goto C eX5_atOnce_57 ?_
          refine ga_forget [true, true, true, false] rfl ?_
          exact ih _ _ _ hf kx
        clear hf
        have hf := hx
        refine ga_icmp_ne C eX5_atOnce_32 g6 (by decide) (fun hc => ?_) (fun hc => ?_)
        · rw [if_pos hc] at hf
          refine ga_il1 C eX5_atOnce_35 ?_
          refine ga_al0 C eX5_atOnce_36 ?_
          refine ga_getR C hK eX5_atOnce_37 lRX5_10 rfl rfl ?_
          refine ga_al3 C eX5_atOnce_40 ?_
          refine ga_al3 C eX5_atOnce_41 ?_
          refine ga_getI C hK eX5_atOnce_42 lRX5_162 k5 rfl ?_
          refine ga_al3 C eX5_atOnce_45 ?_
          refine ga_getI C hK eX5_atOnce_46 lRX5_165 k5 rfl ?_
          obtain ⟨r8, c8, hf⟩ := gb_some hf
          refine ga_cV3 C hK eX5_atOnce_49 nRX5_168 mX2_costOf vX2_costOf rfl (t_X2_costOf hg k5 c8) (by decide) (Nat.le_of_ble_eq_true rfl) ?_
          refine ga_iadd C eX5_atOnce_52 ?_
          refine ga_is1 C eX5_atOnce_53 ?_
          cases hf
          exact ga_forget [true, true, true, false] rfl kx7
        · rw [if_neg hc] at hf
          cases hf
          exact ga_forget [true, true, true, false] rfl kx7
      · rw [if_neg hc] at hf
        cases hf
        exact ga_forget [false, true, false, false] rfl kx
  obtain ⟨x1_1, hl1, hf⟩ := gb_some hf
  refine ga_forget [true, true, true, false] rfl ?_
  refine L4 G _ _ _ hl1 ?_
  refine ga_il1 C eX5_atOnce_60 ?_
  exact ga_iret0 C T eX5_atOnce_61 hf

set_option maxRecDepth 20000 in
set_option maxHeartbeats 4000000 in
theorem t_X5_paidOfDone {n e cp G : Nat} (hg : gh n e cp) {M : gaM} {rz : Int}  (hf : f_X5_paidOfDone G n M = some rz) : ga_Met yX5_paidOfDone cX5_paidOfDone 3 (some .int) 4 (gk n e cp) M [.inr (some 0)] (some (.inl rz)) M := by
  refine ga_met (by decide) rfl (Nat.le_of_ble_eq_true rfl) ?_
  intro X C hK T
  show ga_W X M 0 [some (.inr (some 0)), none, none] []
  unfold f_X5_paidOfDone at hf
  refine ga_push C eX5_paidOfDone_0 ?_
  refine ga_is1 C eX5_paidOfDone_1 ?_
  refine ga_push C eX5_paidOfDone_2 ?_
  refine ga_is2 C eX5_paidOfDone_3 ?_
  have L4 : ∀ (F : Nat) (v1 : Int) (v2 : Int) (x1_1 : Int), l_X5_paidOfDone_4 G n M F v1 v2 = some x1_1 → ga_W X M 56 [none, some (.inl x1_1), none] [] → ga_W X M 4 [some (.inr (some 0)), some (.inl v1), some (.inl v2)] [] := by
    intro F
    induction F with
    | zero =>
      intro v1 v2 x1_1 hf kx
      cases hf
    | succ F ih =>
      intro v1 v2 x1_1 hf kx
      rw [l_X5_paidOfDone_4] at hf
      refine ga_il2 C eX5_paidOfDone_4 ?_
      refine ga_al0 C eX5_paidOfDone_5 ?_
      refine ga_getR C hK eX5_paidOfDone_6 lRX5_19 rfl rfl ?_
      obtain ⟨r2, c2, hf⟩ := gb_some hf
      refine ga_cV0 C hK eX5_paidOfDone_9 nRX5_109 mJx4a65c_size_8abf5 vJx4a65c_size_8abf5 rfl (t_Jx4a65c_size_8abf5 hg c2) (by decide) (Nat.le_of_ble_eq_true rfl) ?_
      obtain ⟨g3, hf⟩ := gg_some hf
      obtain ⟨g4, hf⟩ := gg_some hf
      refine ga_icmp_ge C eX5_paidOfDone_12 g3 g4 (fun hc => ?_) (fun hc => ?_)
      · rw [if_pos hc] at hf
        refine ga_al0 C eX5_paidOfDone_15 ?_
        refine ga_getR C hK eX5_paidOfDone_16 lRX5_19 rfl rfl ?_
        refine ga_il2 C eX5_paidOfDone_19 ?_
        obtain ⟨r5, c5, hf⟩ := gb_some hf
        have k5 := gk_get (e := e) (cp := cp) c5
        refine ga_cV1 C hK eX5_paidOfDone_20 nRX5_116 mJx4a65c_get_915e3 vJx4a65c_get_915e3 rfl (t_get hg c5) (by decide) (Nat.le_of_ble_eq_true rfl) ?_
        refine ga_cast (q := gaT_4) C hK eX5_paidOfDone_23 clRX5_101 rfl k5 ?_
        refine ga_getI C hK eX5_paidOfDone_26 lRX5_120 k5 rfl ?_
        refine ga_push C eX5_paidOfDone_29 ?_
        obtain ⟨g6, hf⟩ := gg_some hf
        obtain ⟨x1_7, hx, hf⟩ := gb_some hf
        have kx7 : ga_W X M 50 [some (.inr (some 0)), some (.inl x1_7), some (.inl v2)] [] := by
          refine ga_ii2 C eX5_paidOfDone_50 ?_
          refine ga_goto C eX5_paidOfDone_53 ?_
          refine ga_forget [true, true, true] rfl ?_
          exact ih _ _ _ hf kx
        clear hf
        have hf := hx
        refine ga_icmp_ne C eX5_paidOfDone_30 g6 (by decide) (fun hc => ?_) (fun hc => ?_)
        · rw [if_pos hc] at hf
          refine ga_il1 C eX5_paidOfDone_33 ?_
          refine ga_al0 C eX5_paidOfDone_34 ?_
          refine ga_getR C hK eX5_paidOfDone_35 lRX5_19 rfl rfl ?_
          refine ga_il2 C eX5_paidOfDone_38 ?_
          obtain ⟨r8, c8, hf⟩ := gb_some hf
          have k8 := gk_get (e := e) (cp := cp) c8
          refine ga_cV1 C hK eX5_paidOfDone_39 nRX5_116 mJx4a65c_get_915e3 vJx4a65c_get_915e3 rfl (t_get hg c8) (by decide) (Nat.le_of_ble_eq_true rfl) ?_
          refine ga_cast (q := gaT_4) C hK eX5_paidOfDone_42 clRX5_101 rfl k8 ?_
          refine ga_getI C hK eX5_paidOfDone_45 lRX5_159 k8 rfl ?_
          refine ga_iadd C eX5_paidOfDone_48 ?_
          refine ga_is1 C eX5_paidOfDone_49 ?_
          cases hf
          exact ga_forget [true, true, true] rfl kx7
        · rw [if_neg hc] at hf
          cases hf
          exact ga_forget [true, true, true] rfl kx7
      · rw [if_neg hc] at hf
        cases hf
        exact ga_forget [false, true, false] rfl kx
  obtain ⟨x1_1, hl1, hf⟩ := gb_some hf
  refine ga_forget [true, true, true] rfl ?_
  refine L4 G _ _ _ hl1 ?_
  refine ga_il1 C eX5_paidOfDone_56 ?_
  exact ga_iret0 C T eX5_paidOfDone_57 hf

set_option maxRecDepth 20000 in
set_option maxHeartbeats 4000000 in
theorem t_X5_saved {n e cp G : Nat} (hg : gh n e cp) {M : gaM} {rz : Int}  (hf : f_X5_saved G n M = some rz) : ga_Met yX5_saved cX5_saved 1 (some .int) 5 (gk n e cp) M [.inr (some 0)] (some (.inl rz)) M := by
  refine ga_met (by decide) rfl (Nat.le_of_ble_eq_true rfl) ?_
  intro X C hK T
  show ga_W X M 0 [some (.inr (some 0))] []
  unfold f_X5_saved at hf
  refine ga_al0 C eX5_saved_0 ?_
  obtain ⟨r1, c1, hf⟩ := gb_some hf
  refine ga_cV0 C hK eX5_saved_1 nRX5_172 mX5_atOnce vX5_atOnce rfl (t_X5_atOnce hg c1) (by decide) (Nat.le_of_ble_eq_true rfl) ?_
  refine ga_al0 C eX5_saved_4 ?_
  obtain ⟨r2, c2, hf⟩ := gb_some hf
  refine ga_cV0 C hK eX5_saved_5 nRX5_175 mX5_paidOfDone vX5_paidOfDone rfl (t_X5_paidOfDone hg c2) (by decide) (Nat.le_of_ble_eq_true rfl) ?_
  refine ga_isub C eX5_saved_8 ?_
  exact ga_iret0 C T eX5_saved_9 hf

set_option maxRecDepth 20000 in
set_option maxHeartbeats 4000000 in
theorem t_X5_regretOf {n e cp G : Nat} (hg : gh n e cp) {M Mz : gaM} {w1 : Nat} {rz : Int} (hw1 : gk n e cp w1 = some (.inr (.inl (4, gr_X4)))) (hf : f_X5_regretOf G n M w1 = some (rz, Mz)) : ga_Met yX5_regretOf cX5_regretOf 2 (some .int) 3 (gk n e cp) M [.inr (some 0), .inr (some w1)] (some (.inl rz)) Mz := by
  refine ga_met (by decide) rfl (Nat.le_of_ble_eq_true rfl) ?_
  intro X C hK T
  show ga_W X M 0 [some (.inr (some 0)), some (.inr (some w1))] []
  unfold f_X5_regretOf at hf
  refine ga_al0 C eX5_regretOf_0 ?_
  refine ga_getR C hK eX5_regretOf_1 lRX5_40 rfl rfl ?_
  refine ga_al0 C eX5_regretOf_4 ?_
  refine ga_getR C hK eX5_regretOf_5 lRX5_10 rfl rfl ?_
  refine ga_al1 C eX5_regretOf_8 ?_
  refine ga_al1 C eX5_regretOf_9 ?_
  refine ga_getI C hK eX5_regretOf_10 lRX5_165 hw1 rfl ?_
  refine ga_al1 C eX5_regretOf_13 ?_
  refine ga_getI C hK eX5_regretOf_14 lRX5_182 hw1 rfl ?_
  refine ga_al0 C eX5_regretOf_17 ?_
  refine ga_getI C hK eX5_regretOf_18 lRX5_58 rfl rfl ?_
  obtain ⟨g2, hf⟩ := gg_some hf
  obtain ⟨g3, hf⟩ := gg_some hf
  refine ga_min C eX5_regretOf_21 nRX5_188 (by decide) g2 g3 (Nat.le_of_ble_eq_true rfl) ?_
  refine ga_push C eX5_regretOf_24 ?_
  obtain ⟨M4, c4, hf⟩ := gb_some hf
  refine ga_cV5 C hK eX5_regretOf_25 nRX5_193 mX1_fill vX1_fill rfl (t_X1_fill hg hw1 c4) (by decide) (Nat.le_of_ble_eq_true rfl) ?_
  refine ga_al0 C eX5_regretOf_28 ?_
  refine ga_getR C hK eX5_regretOf_29 lRX5_40 rfl rfl ?_
  obtain ⟨M5, c5, hf⟩ := gb_some hf
  refine ga_cV0 C hK eX5_regretOf_32 nRX5_197 mX1_pickCheapest vX1_pickCheapest rfl (t_X1_pickCheapest hg c5) (by decide) (Nat.le_of_ble_eq_true rfl) ?_
  refine ga_al1 C eX5_regretOf_35 ?_
  refine ga_getI C hK eX5_regretOf_36 lRX5_159 hw1 rfl ?_
  refine ga_al0 C eX5_regretOf_39 ?_
  refine ga_getR C hK eX5_regretOf_40 lRX5_40 rfl rfl ?_
  refine ga_getI C hK eX5_regretOf_43 lRX5_200 rfl rfl ?_
  refine ga_isub C eX5_regretOf_46 ?_
  exact ga_iretW C T eX5_regretOf_47 hf

set_option maxRecDepth 20000 in
set_option maxHeartbeats 4000000 in
theorem t_X5_regret {n e cp G : Nat} (hg : gh n e cp) {M Mz : gaM} {v1 : Int} {rz : Int}  (hf : f_X5_regret G n M v1 = some (rz, Mz)) : ga_Met yX5_regret cX5_regret 2 (some .int) 4 (gk n e cp) M [.inr (some 0), .inl v1] (some (.inl rz)) Mz := by
  refine ga_met (by decide) rfl (Nat.le_of_ble_eq_true rfl) ?_
  intro X C hK T
  show ga_W X M 0 [some (.inr (some 0)), some (.inl v1)] []
  unfold f_X5_regret at hf
  refine ga_al0 C eX5_regret_0 ?_
  refine ga_il1 C eX5_regret_1 ?_
  obtain ⟨r1, c1, hf⟩ := gb_some hf
  refine ga_cV1 C hK eX5_regret_2 nRX5_123 mX5_isJob vX5_isJob rfl (t_X5_isJob hg c1) (by decide) (Nat.le_of_ble_eq_true rfl) ?_
  obtain ⟨g2, hf⟩ := gg_some hf
  refine ga_if_eq C eX5_regret_5 g2 (fun hc => ?_) (fun hc => ?_)
  · rw [if_pos hc] at hf
    refine ga_push C eX5_regret_26 ?_
    exact ga_iretW C T eX5_regret_27 hf
  · rw [if_neg hc] at hf
    refine ga_al0 C eX5_regret_8 ?_
    refine ga_getR C hK eX5_regret_9 lRX5_19 rfl rfl ?_
    refine ga_il1 C eX5_regret_12 ?_
    obtain ⟨r3, c3, hf⟩ := gb_some hf
    have k3 := gk_get (e := e) (cp := cp) c3
    refine ga_cV1 C hK eX5_regret_13 nRX5_116 mJx4a65c_get_915e3 vJx4a65c_get_915e3 rfl (t_get hg c3) (by decide) (Nat.le_of_ble_eq_true rfl) ?_
    refine ga_cast (q := gaT_4) C hK eX5_regret_16 clRX5_101 rfl k3 ?_
    refine ga_getI C hK eX5_regret_19 lRX5_120 k3 rfl ?_
    refine ga_push C eX5_regret_22 ?_
    obtain ⟨g4, hf⟩ := gg_some hf
    refine ga_icmp_eq C eX5_regret_23 g4 (by decide) (fun hc => ?_) (fun hc => ?_)
    · rw [if_pos hc] at hf
      refine ga_al0 C eX5_regret_28 ?_
      refine ga_al0 C eX5_regret_29 ?_
      refine ga_getR C hK eX5_regret_30 lRX5_19 rfl rfl ?_
      refine ga_il1 C eX5_regret_33 ?_
      obtain ⟨r5, c5, hf⟩ := gb_some hf
      have k5 := gk_get (e := e) (cp := cp) c5
      refine ga_cV1 C hK eX5_regret_34 nRX5_116 mJx4a65c_get_915e3 vJx4a65c_get_915e3 rfl (t_get hg c5) (by decide) (Nat.le_of_ble_eq_true rfl) ?_
      refine ga_cast (q := gaT_4) C hK eX5_regret_37 clRX5_101 rfl k5 ?_
      obtain ⟨r6, M6, c6, hf⟩ := gb2_some hf
      refine ga_cV1 C hK eX5_regret_40 nRX5_178 mX5_regretOf vX5_regretOf rfl (t_X5_regretOf hg k5 c6) (by decide) (Nat.le_of_ble_eq_true rfl) ?_
      exact ga_iretW C T eX5_regret_43 hf
    · rw [if_neg hc] at hf
      refine ga_push C eX5_regret_26 ?_
      exact ga_iretW C T eX5_regret_27 hf

set_option maxRecDepth 20000 in
set_option maxHeartbeats 4000000 in
theorem t_X5_worst {n e cp G : Nat} (hg : gh n e cp) {M Mz : gaM} {rz : Int}  (hf : f_X5_worst G n M = some (rz, Mz)) : ga_Met yX5_worst cX5_worst 5 (some .int) 4 (gk n e cp) M [.inr (some 0)] (some (.inl rz)) Mz := by
  refine ga_met (by decide) rfl (Nat.le_of_ble_eq_true rfl) ?_
  intro X C hK T
  show ga_W X M 0 [some (.inr (some 0)), none, none, none, none] []
  unfold f_X5_worst at hf
  refine ga_push C eX5_worst_0 ?_
  refine ga_is1 C eX5_worst_2 ?_
  refine ga_push C eX5_worst_3 ?_
  refine ga_is2 C eX5_worst_4 ?_
  refine ga_push C eX5_worst_5 ?_
  refine ga_is3 C eX5_worst_6 ?_
  have L7 : ∀ (F : Nat) (M : gaM) (v1 : Int) (v2 : Int) (v3 : Int) (M1 : gaM) (x1_1 : Int), l_X5_worst_7 G n F M v1 v2 v3 = some (M1, x1_1) → ga_W X M1 79 [none, some (.inl x1_1), none, none, none] [] → ga_W X M 7 [some (.inr (some 0)), some (.inl v1), some (.inl v2), some (.inl v3), none] [] := by
    intro F
    induction F with
    | zero =>
      intro M v1 v2 v3 M1 x1_1 hf kx
      cases hf
    | succ F ih =>
      intro M v1 v2 v3 M1 x1_1 hf kx
      rw [l_X5_worst_7] at hf
      refine ga_il3 C eX5_worst_7 ?_
      refine ga_al0 C eX5_worst_8 ?_
      refine ga_getR C hK eX5_worst_9 lRX5_19 rfl rfl ?_
      obtain ⟨r2, c2, hf⟩ := gb_some hf
      refine ga_cV0 C hK eX5_worst_12 nRX5_109 mJx4a65c_size_8abf5 vJx4a65c_size_8abf5 rfl (t_Jx4a65c_size_8abf5 hg c2) (by decide) (Nat.le_of_ble_eq_true rfl) ?_
      obtain ⟨g3, hf⟩ := gg_some hf
      obtain ⟨g4, hf⟩ := gg_some hf
      refine ga_icmp_ge C eX5_worst_15 g3 g4 (fun hc => ?_) (fun hc => ?_)
      · rw [if_pos hc] at hf
        refine ga_al0 C eX5_worst_18 ?_
        refine ga_getR C hK eX5_worst_19 lRX5_19 rfl rfl ?_
        refine ga_il3 C eX5_worst_22 ?_
        obtain ⟨r5, c5, hf⟩ := gb_some hf
        have k5 := gk_get (e := e) (cp := cp) c5
        refine ga_cV1 C hK eX5_worst_23 nRX5_116 mJx4a65c_get_915e3 vJx4a65c_get_915e3 rfl (t_get hg c5) (by decide) (Nat.le_of_ble_eq_true rfl) ?_
        refine ga_cast (q := gaT_4) C hK eX5_worst_26 clRX5_101 rfl k5 ?_
        refine ga_getI C hK eX5_worst_29 lRX5_120 k5 rfl ?_
        refine ga_push C eX5_worst_32 ?_
        obtain ⟨g6, hf⟩ := gg_some hf
        obtain ⟨M7, x1_7, x2_7, hx, hf⟩ := gb3_some hf
        have kx7 : ga_W X M7 73 [some (.inr (some 0)), some (.inl x1_7), some (.inl x2_7), some (.inl v3), none] [] := by
          refine ga_ii3 C eX5_worst_73 ?_
          refine ga_goto C eX5_worst_76 ?_
          refine ga_forget [true, true, true, true, false] rfl ?_
          exact ih _ _ _ _ _ _ hf kx
        clear hf
        have hf := hx
        refine ga_icmp_eq C eX5_worst_33 g6 (by decide) (fun hc => ?_) (fun hc => ?_)
        · rw [if_pos hc] at hf
          refine ga_al0 C eX5_worst_39 ?_
          refine ga_al0 C eX5_worst_40 ?_
          refine ga_getR C hK eX5_worst_41 lRX5_19 rfl rfl ?_
          refine ga_il3 C eX5_worst_44 ?_
          obtain ⟨r8, c8, hf⟩ := gb_some hf
          have k8 := gk_get (e := e) (cp := cp) c8
          refine ga_cV1 C hK eX5_worst_45 nRX5_116 mJx4a65c_get_915e3 vJx4a65c_get_915e3 rfl (t_get hg c8) (by decide) (Nat.le_of_ble_eq_true rfl) ?_
          refine ga_cast (q := gaT_4) C hK eX5_worst_48 clRX5_101 rfl k8 ?_
          obtain ⟨r9, M9, c9, hf⟩ := gb2_some hf
          refine ga_cV1 C hK eX5_worst_51 nRX5_178 mX5_regretOf vX5_regretOf rfl (t_X5_regretOf hg k8 c9) (by decide) (Nat.le_of_ble_eq_true rfl) ?_
          refine ga_is4 C eX5_worst_54 ?_
          refine ga_il1 C eX5_worst_56 ?_
          refine ga_push C eX5_worst_57 ?_
          obtain ⟨g10, hf⟩ := gg_some hf
          refine ga_icmp_eq C eX5_worst_59 g10 (by decide) (fun hc => ?_) (fun hc => ?_)
          · rw [if_pos hc] at hf
            refine ga_il3 C eX5_worst_68 ?_
            refine ga_is1 C eX5_worst_69 ?_
            refine ga_il4 C eX5_worst_70 ?_
            refine ga_is2 C eX5_worst_72 ?_
            cases hf
            exact ga_forget [true, true, true, true, false] rfl kx7
          · rw [if_neg hc] at hf
            refine ga_il4 C eX5_worst_62 ?_
            refine ga_il2 C eX5_worst_64 ?_
            obtain ⟨g11, hf⟩ := gg_some hf
            obtain ⟨g12, hf⟩ := gg_some hf
            refine ga_icmp_le C eX5_worst_65 g11 g12 (fun hc => ?_) (fun hc => ?_)
            · rw [if_pos hc] at hf
              refine ga_il3 C eX5_worst_68 ?_
              refine ga_is1 C eX5_worst_69 ?_
              refine ga_il4 C eX5_worst_70 ?_
              refine ga_is2 C eX5_worst_72 ?_
              cases hf
              exact ga_forget [true, true, true, true, false] rfl kx7
            · rw [if_neg hc] at hf
              cases hf
              exact ga_forget [true, true, true, true, false] rfl kx7
        · rw [if_neg hc] at hf
          refine ga_goto C eX5_worst_36 ?_
          cases hf
          exact ga_forget [true, true, true, true, false] rfl kx7
      · rw [if_neg hc] at hf
        cases hf
        exact ga_forget [false, true, false, false, false] rfl kx
  obtain ⟨M1, x1_1, hl1, hf⟩ := gb2_some hf
  refine ga_forget [true, true, true, true, false] rfl ?_
  refine L7 G _ _ _ _ _ _ hl1 ?_
  refine ga_il1 C eX5_worst_79 ?_
  exact ga_iretW C T eX5_worst_80 hf

set_option maxRecDepth 20000 in
set_option maxHeartbeats 4000000 in
theorem t_X5_would {n e cp G : Nat} (hg : gh n e cp) {M Mz : gaM} {v1 v2 v3 : Int} {rz : Int}  (hf : f_X5_would G n M v1 v2 v3 = some (rz, Mz)) : ga_Met yX5_would cX5_would 5 (some .int) 4 (gk n e cp) M [.inr (some 0), .inl v1, .inl v2, .inl v3] (some (.inl rz)) Mz := by
  refine ga_met (by decide) rfl (Nat.le_of_ble_eq_true rfl) ?_
  intro X C hK T
  show ga_W X M 0 [some (.inr (some 0)), some (.inl v1), some (.inl v2), some (.inl v3), none] []
  unfold f_X5_would at hf
  refine ga_al0 C eX5_would_0 ?_
  refine ga_al0 C eX5_would_1 ?_
  refine ga_il1 C eX5_would_2 ?_
  obtain ⟨r1, c1, hf⟩ := gb_some hf
  refine ga_cV1 C hK eX5_would_3 nRX5_123 mX5_isJob vX5_isJob rfl (t_X5_isJob hg c1) (by decide) (Nat.le_of_ble_eq_true rfl) ?_
  obtain ⟨g2, hf⟩ := gg_some hf
  obtain ⟨s0_3, hx, hf⟩ := gb_some hf
  have kx3 : ga_W X M 25 [some (.inr (some 0)), some (.inl v1), some (.inl v2), some (.inl v3), none] [.inl s0_3, .inr (some 0)] := by
    obtain ⟨M6, q6, hf⟩ := gB_some hf
    refine ga_putI C hK eX5_would_25 lRX5_61 (by intro q hq; cases hq; exact ⟨rfl, rfl⟩) rfl rfl q6 ?_
    refine ga_al0 C eX5_would_28 ?_
    refine ga_getI C hK eX5_would_29 lRX5_61 rfl rfl ?_
    obtain ⟨g7, hf⟩ := gg_some hf
    refine ga_if_eq C eX5_would_32 g7 (fun hc => ?_) (fun hc => ?_)
    · rw [if_pos hc] at hf
      refine ga_al0 C eX5_would_37 ?_
      refine ga_getR C hK eX5_would_38 lRX5_19 rfl rfl ?_
      refine ga_il1 C eX5_would_41 ?_
      obtain ⟨r8, c8, hf⟩ := gb_some hf
      have k8 := gk_get (e := e) (cp := cp) c8
      refine ga_cV1 C hK eX5_would_42 nRX5_116 mJx4a65c_get_915e3 vJx4a65c_get_915e3 rfl (t_get hg c8) (by decide) (Nat.le_of_ble_eq_true rfl) ?_
      refine ga_cast (q := gaT_4) C hK eX5_would_45 clRX5_101 rfl k8 ?_
      refine ga_as4 C eX5_would_48 ?_
      refine ga_il3 C eX5_would_50 ?_
      refine ga_al4 C eX5_would_51 ?_
      refine ga_getI C hK eX5_would_53 lRX5_165 k8 rfl ?_
      refine ga_al4 C eX5_would_56 ?_
      refine ga_getI C hK eX5_would_58 lRX5_182 k8 rfl ?_
      refine ga_al4 C eX5_would_61 ?_
      refine ga_getI C hK eX5_would_63 lRX5_185 k8 rfl ?_
      refine ga_isub C eX5_would_66 ?_
      obtain ⟨r9, c9, hf⟩ := gb_some hf
      refine ga_cS3 C hK eX5_would_67 nRX5_71 mX5_within sX5_within (t_X5_within hg c9) (by decide) (Nat.le_of_ble_eq_true rfl) ?_
      obtain ⟨g10, hf⟩ := gg_some hf
      refine ga_if_ne C eX5_would_70 g10 (fun hc => ?_) (fun hc => ?_)
      · rw [if_pos hc] at hf
        refine ga_push C eX5_would_73 ?_
        exact ga_iretW C T eX5_would_75 hf
      · rw [if_neg hc] at hf
        refine ga_al0 C eX5_would_76 ?_
        refine ga_getR C hK eX5_would_77 lRX5_10 rfl rfl ?_
        refine ga_al4 C eX5_would_80 ?_
        refine ga_il2 C eX5_would_82 ?_
        refine ga_il3 C eX5_would_83 ?_
        obtain ⟨r11, c11, hf⟩ := gb_some hf
        refine ga_cV3 C hK eX5_would_84 nRX5_168 mX2_costOf vX2_costOf rfl (t_X2_costOf hg k8 c11) (by decide) (Nat.le_of_ble_eq_true rfl) ?_
        exact ga_iretW C T eX5_would_87 hf
    · rw [if_neg hc] at hf
      refine ga_push C eX5_would_35 ?_
      exact ga_iretW C T eX5_would_36 hf
  clear hf
  have hf := hx
  refine ga_if_eq C eX5_would_6 g2 (fun hc => ?_) (fun hc => ?_)
  · rw [if_pos hc] at hf
    refine ga_push C eX5_would_24 ?_
    cases hf
    exact ga_forget [true, true, true, true, false] rfl kx3
  · rw [if_neg hc] at hf
    refine ga_al0 C eX5_would_9 ?_
    refine ga_getR C hK eX5_would_10 lRX5_10 rfl rfl ?_
    refine ga_il2 C eX5_would_13 ?_
    obtain ⟨r4, c4, hf⟩ := gb_some hf
    refine ga_cV1 C hK eX5_would_14 nRX5_86 mX2_has vX2_has rfl (t_X2_has hg c4) (by decide) (Nat.le_of_ble_eq_true rfl) ?_
    obtain ⟨g5, hf⟩ := gg_some hf
    refine ga_if_eq C eX5_would_17 g5 (fun hc => ?_) (fun hc => ?_)
    · rw [if_pos hc] at hf
      refine ga_push C eX5_would_24 ?_
      cases hf
      exact ga_forget [true, true, true, true, false] rfl kx3
    · rw [if_neg hc] at hf
      refine ga_push C eX5_would_20 ?_
      refine ga_goto C eX5_would_21 ?_
      cases hf
      exact ga_forget [true, true, true, true, false] rfl kx3

set_option maxRecDepth 20000 in
set_option maxHeartbeats 4000000 in
theorem t_X5_count {n e cp G : Nat} (hg : gh n e cp) {M : gaM} {v1 : Int} {rz : Int}  (hf : f_X5_count G n M v1 = some rz) : ga_Met yX5_count cX5_count 2 (some .int) 5 (gk n e cp) M [.inr (some 0), .inl v1] (some (.inl rz)) M := by
  refine ga_met (by decide) rfl (Nat.le_of_ble_eq_true rfl) ?_
  intro X C hK T
  show ga_W X M 0 [some (.inr (some 0)), some (.inl v1)] []
  unfold f_X5_count at hf
  refine ga_il1 C eX5_count_0 ?_
  obtain ⟨g1, hf⟩ := gg_some hf
  by_cases hc0 : v1 = 0
  · rw [if_pos hc0] at hf
    refine ga_tabIn 0 C eX5_count_1 hc0 (by decide) (by decide) rfl (by decide) (tgt := 44) ?_
    refine ga_al0 C eX5_count_44 ?_
    refine ga_getR C hK eX5_count_45 lRX5_10 rfl rfl ?_
    refine ga_getI C hK eX5_count_48 lRX5_75 rfl rfl ?_
    exact ga_iret0 C T eX5_count_51 hf
  · rw [if_neg hc0] at hf
    by_cases hc1 : v1 = 1
    · rw [if_pos hc1] at hf
      refine ga_tabIn 1 C eX5_count_1 hc1 (by decide) (by decide) rfl (by decide) (tgt := 52) ?_
      refine ga_al0 C eX5_count_52 ?_
      refine ga_getR C hK eX5_count_53 lRX5_19 rfl rfl ?_
      obtain ⟨r2, c2, hf⟩ := gb_some hf
      refine ga_cV0 C hK eX5_count_56 nRX5_109 mJx4a65c_size_8abf5 vJx4a65c_size_8abf5 rfl (t_Jx4a65c_size_8abf5 hg c2) (by decide) (Nat.le_of_ble_eq_true rfl) ?_
      exact ga_iret0 C T eX5_count_59 hf
    · rw [if_neg hc1] at hf
      by_cases hc2 : v1 = 2
      · rw [if_pos hc2] at hf
        refine ga_tabIn 2 C eX5_count_1 hc2 (by decide) (by decide) rfl (by decide) (tgt := 60) ?_
        refine ga_al0 C eX5_count_60 ?_
        refine ga_push C eX5_count_61 ?_
        obtain ⟨r3, c3, hf⟩ := gb_some hf
        refine ga_cV1 C hK eX5_count_62 nRX5_141 mX5_countOf vX5_countOf rfl (t_X5_countOf hg c3) (by decide) (Nat.le_of_ble_eq_true rfl) ?_
        exact ga_iret0 C T eX5_count_65 hf
      · rw [if_neg hc2] at hf
        by_cases hc3 : v1 = 3
        · rw [if_pos hc3] at hf
          refine ga_tabIn 3 C eX5_count_1 hc3 (by decide) (by decide) rfl (by decide) (tgt := 66) ?_
          refine ga_al0 C eX5_count_66 ?_
          refine ga_push C eX5_count_67 ?_
          obtain ⟨r4, c4, hf⟩ := gb_some hf
          refine ga_cV1 C hK eX5_count_68 nRX5_141 mX5_countOf vX5_countOf rfl (t_X5_countOf hg c4) (by decide) (Nat.le_of_ble_eq_true rfl) ?_
          exact ga_iret0 C T eX5_count_71 hf
        · rw [if_neg hc3] at hf
          by_cases hc4 : v1 = 4
          · rw [if_pos hc4] at hf
            refine ga_tabIn 4 C eX5_count_1 hc4 (by decide) (by decide) rfl (by decide) (tgt := 72) ?_
            refine ga_al0 C eX5_count_72 ?_
            refine ga_push C eX5_count_73 ?_
            obtain ⟨r5, c5, hf⟩ := gb_some hf
            refine ga_cV1 C hK eX5_count_74 nRX5_141 mX5_countOf vX5_countOf rfl (t_X5_countOf hg c5) (by decide) (Nat.le_of_ble_eq_true rfl) ?_
            exact ga_iret0 C T eX5_count_77 hf
          · rw [if_neg hc4] at hf
            by_cases hc5 : v1 = 5
            · rw [if_pos hc5] at hf
              refine ga_tabIn 5 C eX5_count_1 hc5 (by decide) (by decide) rfl (by decide) (tgt := 78) ?_
              refine ga_al0 C eX5_count_78 ?_
              refine ga_push C eX5_count_79 ?_
              obtain ⟨r6, c6, hf⟩ := gb_some hf
              refine ga_cV1 C hK eX5_count_80 nRX5_141 mX5_countOf vX5_countOf rfl (t_X5_countOf hg c6) (by decide) (Nat.le_of_ble_eq_true rfl) ?_
              exact ga_iret0 C T eX5_count_83 hf
            · rw [if_neg hc5] at hf
              by_cases hc6 : v1 = 6
              · rw [if_pos hc6] at hf
                refine ga_tabIn 6 C eX5_count_1 hc6 (by decide) (by decide) rfl (by decide) (tgt := 84) ?_
                refine ga_al0 C eX5_count_84 ?_
                refine ga_getI C hK eX5_count_85 lRX5_58 rfl rfl ?_
                exact ga_iret0 C T eX5_count_88 hf
              · rw [if_neg hc6] at hf
                refine ga_tabOut C eX5_count_1 g1 (by omega) (by decide) (tgt := 89) ?_
                refine ga_push C eX5_count_89 ?_
                exact ga_iret0 C T eX5_count_90 hf

set_option maxRecDepth 20000 in
set_option maxHeartbeats 4000000 in
theorem t_X5_trouble {n e cp G : Nat} (hg : gh n e cp) {M : gaM} {rz : Int}  (hf : f_X5_trouble G n M = some rz) : ga_Met yX5_trouble cX5_trouble 1 (some .int) 0 (gk n e cp) M [.inr (some 0)] (some (.inl rz)) M := by
  refine ga_met (by decide) rfl (Nat.le_of_ble_eq_true rfl) ?_
  intro X C hK T
  show ga_W X M 0 [some (.inr (some 0))] []
  unfold f_X5_trouble at hf
  refine ga_al0 C eX5_trouble_0 ?_
  refine ga_getI C hK eX5_trouble_1 lRX5_61 rfl rfl ?_
  exact ga_iret0 C T eX5_trouble_4 hf


set_option maxRecDepth 20000 in
set_option maxHeartbeats 4000000 in
theorem t_X6_refused {n e cp G : Nat} (hg : gh n e cp) {M Mz : gaM} {v1 : Int} {rz : Int}  (hf : f_X6_refused G n M v1 = some (rz, Mz)) : ga_Met yX6_refused cX6_refused 2 (some .int) 0 (gk n e cp) M [.inr (some 100), .inl v1] (some (.inl rz)) Mz := by
  refine ga_met (by decide) rfl (Nat.le_of_ble_eq_true rfl) ?_
  intro X C hK T
  show ga_W X M 0 [some (.inr (some 100)), some (.inl v1)] []
  unfold f_X6_refused at hf
  refine ga_al0 C eX6_refused_0 ?_
  refine ga_il1 C eX6_refused_1 ?_
  obtain ⟨M1, q1, hf⟩ := gB_some hf
  refine ga_putI C hK eX6_refused_2 lRX6_7 (by intro q hq; cases hq; exact ⟨rfl, rfl⟩) rfl rfl q1 ?_
  refine ga_push C eX6_refused_5 ?_
  exact ga_iretW C T eX6_refused_6 hf

set_option maxRecDepth 20000 in
set_option maxHeartbeats 4000000 in
theorem t_X6_denied {n e cp G : Nat} (hg : gh n e cp) {M Mz : gaM} {v1 : Int} {rz : Int}  (hf : f_X6_denied G n M v1 = some (rz, Mz)) : ga_Met yX6_denied cX6_denied 2 (some .boolean) 0 (gk n e cp) M [.inr (some 100), .inl v1] (some (.inl rz)) Mz := by
  refine ga_met (by decide) rfl (Nat.le_of_ble_eq_true rfl) ?_
  intro X C hK T
  show ga_W X M 0 [some (.inr (some 100)), some (.inl v1)] []
  unfold f_X6_denied at hf
  refine ga_al0 C eX6_denied_0 ?_
  refine ga_il1 C eX6_denied_1 ?_
  obtain ⟨M1, q1, hf⟩ := gB_some hf
  refine ga_putI C hK eX6_denied_2 lRX6_7 (by intro q hq; cases hq; exact ⟨rfl, rfl⟩) rfl rfl q1 ?_
  refine ga_push C eX6_denied_5 ?_
  exact ga_zretW C T eX6_denied_6 (by decide) hf

set_option maxRecDepth 20000 in
set_option maxHeartbeats 4000000 in
theorem t_X6_done {n e cp G : Nat} (hg : gh n e cp) {M Mz : gaM} {v1 : Int} {rz : Int}  (hf : f_X6_done G n M v1 = some (rz, Mz)) : ga_Met yX6_done cX6_done 2 (some .int) 0 (gk n e cp) M [.inr (some 100), .inl v1] (some (.inl rz)) Mz := by
  refine ga_met (by decide) rfl (Nat.le_of_ble_eq_true rfl) ?_
  intro X C hK T
  show ga_W X M 0 [some (.inr (some 100)), some (.inl v1)] []
  unfold f_X6_done at hf
  refine ga_al0 C eX6_done_0 ?_
  refine ga_push C eX6_done_1 ?_
  obtain ⟨M1, q1, hf⟩ := gB_some hf
  refine ga_putI C hK eX6_done_2 lRX6_7 (by intro q hq; cases hq; exact ⟨rfl, rfl⟩) rfl rfl q1 ?_
  refine ga_il1 C eX6_done_5 ?_
  exact ga_iretW C T eX6_done_6 hf

set_option maxRecDepth 20000 in
set_option maxHeartbeats 4000000 in
theorem t_X6_granted {n e cp G : Nat} (hg : gh n e cp) {M Mz : gaM} {rz : Int}  (hf : f_X6_granted G n M = some (rz, Mz)) : ga_Met yX6_granted cX6_granted 1 (some .boolean) 0 (gk n e cp) M [.inr (some 100)] (some (.inl rz)) Mz := by
  refine ga_met (by decide) rfl (Nat.le_of_ble_eq_true rfl) ?_
  intro X C hK T
  show ga_W X M 0 [some (.inr (some 100))] []
  unfold f_X6_granted at hf
  refine ga_al0 C eX6_granted_0 ?_
  refine ga_push C eX6_granted_1 ?_
  obtain ⟨M1, q1, hf⟩ := gB_some hf
  refine ga_putI C hK eX6_granted_2 lRX6_7 (by intro q hq; cases hq; exact ⟨rfl, rfl⟩) rfl rfl q1 ?_
  refine ga_push C eX6_granted_5 ?_
  exact ga_zretW C T eX6_granted_6 (by decide) hf

set_option maxRecDepth 20000 in
set_option maxHeartbeats 4000000 in
theorem t_X6_in {n e cp G : Nat} (hg : gh n e cp) {M : gaM} {v0 v1 v2 : Int} {rz : Int}  (hf : f_X6_in G n M v0 v1 v2 = some rz) : ga_Met yX6_in cX6_in 3 (some .boolean) 0 (gk n e cp) M [.inl v0, .inl v1, .inl v2] (some (.inl rz)) M := by
  refine ga_met (by decide) rfl (Nat.le_of_ble_eq_true rfl) ?_
  intro X C hK T
  show ga_W X M 0 [some (.inl v0), some (.inl v1), some (.inl v2)] []
  unfold f_X6_in at hf
  refine ga_il0 C eX6_in_0 ?_
  refine ga_il1 C eX6_in_1 ?_
  obtain ⟨g1, hf⟩ := gg_some hf
  obtain ⟨g2, hf⟩ := gg_some hf
  refine ga_icmp_lt C eX6_in_2 g1 g2 (fun hc => ?_) (fun hc => ?_)
  · rw [if_pos hc] at hf
    refine ga_il0 C eX6_in_5 ?_
    refine ga_il2 C eX6_in_6 ?_
    obtain ⟨g3, hf⟩ := gg_some hf
    refine ga_icmp_gt C eX6_in_7 g1 g3 (fun hc => ?_) (fun hc => ?_)
    · rw [if_pos hc] at hf
      refine ga_push C eX6_in_10 ?_
      refine ga_goto C eX6_in_11 ?_
      exact ga_zret0 C T eX6_in_15 (by decide) hf
    · rw [if_neg hc] at hf
      refine ga_push C eX6_in_14 ?_
      exact ga_zret0 C T eX6_in_15 (by decide) hf
  · rw [if_neg hc] at hf
    refine ga_push C eX6_in_14 ?_
    exact ga_zret0 C T eX6_in_15 (by decide) hf

set_option maxRecDepth 20000 in
set_option maxHeartbeats 4000000 in
theorem t_X6_isPlace {n e cp G : Nat} (hg : gh n e cp) {M : gaM} {v1 : Int} {rz : Int}  (hf : f_X6_isPlace G n M v1 = some rz) : ga_Met yX6_isPlace cX6_isPlace 2 (some .boolean) 0 (gk n e cp) M [.inr (some 100), .inl v1] (some (.inl rz)) M := by
  refine ga_met (by decide) rfl (Nat.le_of_ble_eq_true rfl) ?_
  intro X C hK T
  show ga_W X M 0 [some (.inr (some 100)), some (.inl v1)] []
  unfold f_X6_isPlace at hf
  refine ga_il1 C eX6_isPlace_0 ?_
  obtain ⟨g1, hf⟩ := gg_some hf
  refine ga_if_lt C eX6_isPlace_1 g1 (fun hc => ?_) (fun hc => ?_)
  · rw [if_pos hc] at hf
    refine ga_il1 C eX6_isPlace_4 ?_
    refine ga_al0 C eX6_isPlace_5 ?_
    refine ga_getI C hK eX6_isPlace_6 lRX6_102 rfl rfl ?_
    obtain ⟨g2, hf⟩ := gg_some hf
    refine ga_icmp_ge C eX6_isPlace_9 g1 g2 (fun hc => ?_) (fun hc => ?_)
    · rw [if_pos hc] at hf
      refine ga_push C eX6_isPlace_12 ?_
      refine ga_goto C eX6_isPlace_13 ?_
      exact ga_zret0 C T eX6_isPlace_17 (by decide) hf
    · rw [if_neg hc] at hf
      refine ga_push C eX6_isPlace_16 ?_
      exact ga_zret0 C T eX6_isPlace_17 (by decide) hf
  · rw [if_neg hc] at hf
    refine ga_push C eX6_isPlace_16 ?_
    exact ga_zret0 C T eX6_isPlace_17 (by decide) hf

set_option maxRecDepth 20000 in
set_option maxHeartbeats 4000000 in
theorem t_X6_isJob {n e cp G : Nat} (hg : gh n e cp) {M : gaM} {v1 : Int} {rz : Int}  (hf : f_X6_isJob G n M v1 = some rz) : ga_Met yX6_isJob cX6_isJob 2 (some .boolean) 0 (gk n e cp) M [.inr (some 100), .inl v1] (some (.inl rz)) M := by
  refine ga_met (by decide) rfl (Nat.le_of_ble_eq_true rfl) ?_
  intro X C hK T
  show ga_W X M 0 [some (.inr (some 100)), some (.inl v1)] []
  unfold f_X6_isJob at hf
  refine ga_il1 C eX6_isJob_0 ?_
  obtain ⟨g1, hf⟩ := gg_some hf
  refine ga_if_lt C eX6_isJob_1 g1 (fun hc => ?_) (fun hc => ?_)
  · rw [if_pos hc] at hf
    refine ga_il1 C eX6_isJob_4 ?_
    refine ga_al0 C eX6_isJob_5 ?_
    refine ga_getI C hK eX6_isJob_6 lRX6_105 rfl rfl ?_
    obtain ⟨g2, hf⟩ := gg_some hf
    refine ga_icmp_ge C eX6_isJob_9 g1 g2 (fun hc => ?_) (fun hc => ?_)
    · rw [if_pos hc] at hf
      refine ga_push C eX6_isJob_12 ?_
      refine ga_goto C eX6_isJob_13 ?_
      exact ga_zret0 C T eX6_isJob_17 (by decide) hf
    · rw [if_neg hc] at hf
      refine ga_push C eX6_isJob_16 ?_
      exact ga_zret0 C T eX6_isJob_17 (by decide) hf
  · rw [if_neg hc] at hf
    refine ga_push C eX6_isJob_16 ?_
    exact ga_zret0 C T eX6_isJob_17 (by decide) hf

set_option maxRecDepth 20000 in
set_option maxHeartbeats 4000000 in
theorem t_X6_place {n e cp G : Nat} (hg : gh n e cp) {M Mz : gaM} {v1 : Int} {rz : Int}  (hf : f_X6_place G n M v1 = some (rz, Mz)) : ga_Met yX6_place cX6_place 2 (some .int) 1 (gk n e cp) M [.inr (some 100), .inl v1] (some (.inl rz)) Mz := by
  refine ga_met (by decide) rfl (Nat.le_of_ble_eq_true rfl) ?_
  intro X C hK T
  show ga_W X M 0 [some (.inr (some 100)), some (.inl v1)] []
  unfold f_X6_place at hf
  refine ga_al0 C eX6_place_0 ?_
  refine ga_push C eX6_place_1 ?_
  obtain ⟨M1, q1, hf⟩ := gB_some hf
  refine ga_putI C hK eX6_place_2 lRX6_1 (by intro q hq; cases hq; exact ⟨rfl, rfl⟩) rfl rfl q1 ?_
  refine ga_il1 C eX6_place_5 ?_
  refine ga_push C eX6_place_6 ?_
  refine ga_push C eX6_place_7 ?_
  obtain ⟨r2, c2, hf⟩ := gb_some hf
  refine ga_cS3 C hK eX6_place_9 nRX6_108 mX6_in sX6_in (t_X6_in hg c2) (by decide) (Nat.le_of_ble_eq_true rfl) ?_
  obtain ⟨g3, hf⟩ := gg_some hf
  refine ga_if_ne C eX6_place_12 g3 (fun hc => ?_) (fun hc => ?_)
  · rw [if_pos hc] at hf
    refine ga_al0 C eX6_place_15 ?_
    refine ga_push C eX6_place_16 ?_
    obtain ⟨r4, M4, c4, hf⟩ := gb2_some hf
    refine ga_cV1 C hK eX6_place_17 nRX6_112 mX6_refused vX6_refused rfl (t_X6_refused hg c4) (by decide) (Nat.le_of_ble_eq_true rfl) ?_
    exact ga_iretW C T eX6_place_20 hf
  · rw [if_neg hc] at hf
    refine ga_al0 C eX6_place_21 ?_
    refine ga_getI C hK eX6_place_22 lRX6_102 rfl rfl ?_
    refine ga_push C eX6_place_25 ?_
    obtain ⟨g5, hf⟩ := gg_some hf
    refine ga_icmp_ne C eX6_place_26 g5 (by decide) (fun hc => ?_) (fun hc => ?_)
    · rw [if_pos hc] at hf
      refine ga_al0 C eX6_place_29 ?_
      refine ga_push C eX6_place_30 ?_
      obtain ⟨r6, M6, c6, hf⟩ := gb2_some hf
      refine ga_cV1 C hK eX6_place_31 nRX6_112 mX6_refused vX6_refused rfl (t_X6_refused hg c6) (by decide) (Nat.le_of_ble_eq_true rfl) ?_
      exact ga_iretW C T eX6_place_34 hf
    · rw [if_neg hc] at hf
      refine ga_al0 C eX6_place_35 ?_
      refine ga_getR C hK eX6_place_36 lRX6_19 rfl rfl ?_
      refine ga_al0 C eX6_place_39 ?_
      refine ga_getI C hK eX6_place_40 lRX6_102 rfl rfl ?_
      refine ga_il1 C eX6_place_43 ?_
      obtain ⟨g8, hf⟩ := gg_some hf
      obtain ⟨M7, q7, hf⟩ := gB_some hf
      refine ga_iast C hK eX6_place_44 rfl (by decide) g8 q7 ?_
      refine ga_al0 C eX6_place_45 ?_
      refine ga_dup C eX6_place_46 ?_
      refine ga_getI C hK eX6_place_47 lRX6_102 rfl rfl ?_
      refine ga_push C eX6_place_50 ?_
      refine ga_iadd C eX6_place_51 ?_
      obtain ⟨M9, q9, hf⟩ := gB_some hf
      refine ga_putI C hK eX6_place_52 lRX6_102 (by intro q hq; cases hq; exact ⟨rfl, rfl⟩) rfl rfl q9 ?_
      refine ga_al0 C eX6_place_55 ?_
      refine ga_al0 C eX6_place_56 ?_
      refine ga_getI C hK eX6_place_57 lRX6_102 rfl rfl ?_
      refine ga_push C eX6_place_60 ?_
      refine ga_isub C eX6_place_61 ?_
      obtain ⟨r10, M10, c10, hf⟩ := gb2_some hf
      refine ga_cV1 C hK eX6_place_62 nRX6_116 mX6_done vX6_done rfl (t_X6_done hg c10) (by decide) (Nat.le_of_ble_eq_true rfl) ?_
      exact ga_iretW C T eX6_place_65 hf

set_option maxRecDepth 20000 in
set_option maxHeartbeats 4000000 in
theorem t_X6_fare {n e cp G : Nat} (hg : gh n e cp) {M Mz : gaM} {v1 v2 v3 : Int} {rz : Int}  (hf : f_X6_fare G n M v1 v2 v3 = some (rz, Mz)) : ga_Met yX6_fare cX6_fare 4 (some .boolean) 1 (gk n e cp) M [.inr (some 100), .inl v1, .inl v2, .inl v3] (some (.inl rz)) Mz := by
  refine ga_met (by decide) rfl (Nat.le_of_ble_eq_true rfl) ?_
  intro X C hK T
  show ga_W X M 0 [some (.inr (some 100)), some (.inl v1), some (.inl v2), some (.inl v3)] []
  unfold f_X6_fare at hf
  refine ga_al0 C eX6_fare_0 ?_
  refine ga_push C eX6_fare_1 ?_
  obtain ⟨M1, q1, hf⟩ := gB_some hf
  refine ga_putI C hK eX6_fare_2 lRX6_1 (by intro q hq; cases hq; exact ⟨rfl, rfl⟩) rfl rfl q1 ?_
  refine ga_al0 C eX6_fare_5 ?_
  refine ga_il1 C eX6_fare_6 ?_
  obtain ⟨r2, c2, hf⟩ := gb_some hf
  refine ga_cV1 C hK eX6_fare_7 nRX6_119 mX6_isPlace vX6_isPlace rfl (t_X6_isPlace hg c2) (by decide) (Nat.le_of_ble_eq_true rfl) ?_
  obtain ⟨g3, hf⟩ := gg_some hf
  refine ga_if_eq C eX6_fare_10 g3 (fun hc => ?_) (fun hc => ?_)
  · rw [if_pos hc] at hf
    refine ga_al0 C eX6_fare_26 ?_
    refine ga_push C eX6_fare_27 ?_
    obtain ⟨r4, M4, c4, hf⟩ := gb2_some hf
    refine ga_cV1 C hK eX6_fare_28 nRX6_123 mX6_denied vX6_denied rfl (t_X6_denied hg c4) (by decide) (Nat.le_of_ble_eq_true rfl) ?_
    obtain ⟨b5, hf⟩ := gg_some hf
    exact ga_zretW C T eX6_fare_31 b5 hf
  · rw [if_neg hc] at hf
    refine ga_al0 C eX6_fare_13 ?_
    refine ga_il2 C eX6_fare_14 ?_
    obtain ⟨r6, c6, hf⟩ := gb_some hf
    refine ga_cV1 C hK eX6_fare_15 nRX6_119 mX6_isPlace vX6_isPlace rfl (t_X6_isPlace hg c6) (by decide) (Nat.le_of_ble_eq_true rfl) ?_
    obtain ⟨g7, hf⟩ := gg_some hf
    refine ga_if_eq C eX6_fare_18 g7 (fun hc => ?_) (fun hc => ?_)
    · rw [if_pos hc] at hf
      refine ga_al0 C eX6_fare_26 ?_
      refine ga_push C eX6_fare_27 ?_
      obtain ⟨r8, M8, c8, hf⟩ := gb2_some hf
      refine ga_cV1 C hK eX6_fare_28 nRX6_123 mX6_denied vX6_denied rfl (t_X6_denied hg c8) (by decide) (Nat.le_of_ble_eq_true rfl) ?_
      obtain ⟨b9, hf⟩ := gg_some hf
      exact ga_zretW C T eX6_fare_31 b9 hf
    · rw [if_neg hc] at hf
      refine ga_il1 C eX6_fare_21 ?_
      refine ga_il2 C eX6_fare_22 ?_
      obtain ⟨g10, hf⟩ := gg_some hf
      obtain ⟨g11, hf⟩ := gg_some hf
      refine ga_icmp_ne C eX6_fare_23 g10 g11 (fun hc => ?_) (fun hc => ?_)
      · rw [if_pos hc] at hf
        refine ga_al0 C eX6_fare_26 ?_
        refine ga_push C eX6_fare_27 ?_
        obtain ⟨r12, M12, c12, hf⟩ := gb2_some hf
        refine ga_cV1 C hK eX6_fare_28 nRX6_123 mX6_denied vX6_denied rfl (t_X6_denied hg c12) (by decide) (Nat.le_of_ble_eq_true rfl) ?_
        obtain ⟨b13, hf⟩ := gg_some hf
        exact ga_zretW C T eX6_fare_31 b13 hf
      · rw [if_neg hc] at hf
        refine ga_il3 C eX6_fare_32 ?_
        refine ga_push C eX6_fare_33 ?_
        refine ga_push C eX6_fare_34 ?_
        obtain ⟨r14, c14, hf⟩ := gb_some hf
        refine ga_cS3 C hK eX6_fare_36 nRX6_108 mX6_in sX6_in (t_X6_in hg c14) (by decide) (Nat.le_of_ble_eq_true rfl) ?_
        obtain ⟨g15, hf⟩ := gg_some hf
        refine ga_if_ne C eX6_fare_39 g15 (fun hc => ?_) (fun hc => ?_)
        · rw [if_pos hc] at hf
          refine ga_al0 C eX6_fare_42 ?_
          refine ga_push C eX6_fare_43 ?_
          obtain ⟨r16, M16, c16, hf⟩ := gb2_some hf
          refine ga_cV1 C hK eX6_fare_44 nRX6_123 mX6_denied vX6_denied rfl (t_X6_denied hg c16) (by decide) (Nat.le_of_ble_eq_true rfl) ?_
          obtain ⟨b17, hf⟩ := gg_some hf
          exact ga_zretW C T eX6_fare_47 b17 hf
        · rw [if_neg hc] at hf
          refine ga_al0 C eX6_fare_48 ?_
          refine ga_getR C hK eX6_fare_49 lRX6_23 rfl rfl ?_
          refine ga_push C eX6_fare_52 ?_
          refine ga_il1 C eX6_fare_53 ?_
          refine ga_imul C eX6_fare_54 ?_
          refine ga_il2 C eX6_fare_55 ?_
          refine ga_iadd C eX6_fare_56 ?_
          refine ga_il3 C eX6_fare_57 ?_
          obtain ⟨g19, hf⟩ := gg_some hf
          obtain ⟨M18, q18, hf⟩ := gB_some hf
          refine ga_iast C hK eX6_fare_58 rfl (by decide) g19 q18 ?_
          refine ga_al0 C eX6_fare_59 ?_
          refine ga_getR C hK eX6_fare_60 lRX6_23 rfl rfl ?_
          refine ga_push C eX6_fare_63 ?_
          refine ga_il2 C eX6_fare_64 ?_
          refine ga_imul C eX6_fare_65 ?_
          refine ga_il1 C eX6_fare_66 ?_
          refine ga_iadd C eX6_fare_67 ?_
          refine ga_il3 C eX6_fare_68 ?_
          obtain ⟨g21, hf⟩ := gg_some hf
          obtain ⟨M20, q20, hf⟩ := gB_some hf
          refine ga_iast C hK eX6_fare_69 rfl (by decide) g21 q20 ?_
          refine ga_al0 C eX6_fare_70 ?_
          obtain ⟨r22, M22, c22, hf⟩ := gb2_some hf
          refine ga_cV0 C hK eX6_fare_71 nRX6_126 mX6_granted vX6_granted rfl (t_X6_granted hg c22) (by decide) (Nat.le_of_ble_eq_true rfl) ?_
          obtain ⟨b23, hf⟩ := gg_some hf
          exact ga_zretW C T eX6_fare_74 b23 hf

set_option maxRecDepth 20000 in
set_option maxHeartbeats 4000000 in
theorem t_X6_green {n e cp G : Nat} (hg : gh n e cp) {M Mz : gaM} {v1 v2 v3 v4 : Int} {rz : Int}  (hf : f_X6_green G n M v1 v2 v3 v4 = some (rz, Mz)) : ga_Met yX6_green cX6_green 6 (some .boolean) 1 (gk n e cp) M [.inr (some 100), .inl v1, .inl v2, .inl v3, .inl v4] (some (.inl rz)) Mz := by
  refine ga_met (by decide) rfl (Nat.le_of_ble_eq_true rfl) ?_
  intro X C hK T
  show ga_W X M 0 [some (.inr (some 100)), some (.inl v1), some (.inl v2), some (.inl v3), some (.inl v4), none] []
  unfold f_X6_green at hf
  refine ga_al0 C eX6_green_0 ?_
  refine ga_push C eX6_green_1 ?_
  obtain ⟨M1, q1, hf⟩ := gB_some hf
  refine ga_putI C hK eX6_green_2 lRX6_1 (by intro q hq; cases hq; exact ⟨rfl, rfl⟩) rfl rfl q1 ?_
  refine ga_al0 C eX6_green_5 ?_
  refine ga_il1 C eX6_green_6 ?_
  obtain ⟨r2, c2, hf⟩ := gb_some hf
  refine ga_cV1 C hK eX6_green_7 nRX6_119 mX6_isPlace vX6_isPlace rfl (t_X6_isPlace hg c2) (by decide) (Nat.le_of_ble_eq_true rfl) ?_
  obtain ⟨g3, hf⟩ := gg_some hf
  refine ga_if_ne C eX6_green_10 g3 (fun hc => ?_) (fun hc => ?_)
  · rw [if_pos hc] at hf
    refine ga_al0 C eX6_green_13 ?_
    refine ga_push C eX6_green_14 ?_
    obtain ⟨r4, M4, c4, hf⟩ := gb2_some hf
    refine ga_cV1 C hK eX6_green_15 nRX6_123 mX6_denied vX6_denied rfl (t_X6_denied hg c4) (by decide) (Nat.le_of_ble_eq_true rfl) ?_
    obtain ⟨b5, hf⟩ := gg_some hf
    exact ga_zretW C T eX6_green_18 b5 hf
  · rw [if_neg hc] at hf
    refine ga_il2 C eX6_green_19 ?_
    refine ga_al0 C eX6_green_20 ?_
    refine ga_getI C hK eX6_green_21 lRX6_130 rfl rfl ?_
    obtain ⟨g6, hf⟩ := gg_some hf
    obtain ⟨g7, hf⟩ := gg_some hf
    refine ga_icmp_lt C eX6_green_24 g6 g7 (fun hc => ?_) (fun hc => ?_)
    · rw [if_pos hc] at hf
      refine ga_il2 C eX6_green_27 ?_
      refine ga_il3 C eX6_green_28 ?_
      obtain ⟨g8, hf⟩ := gg_some hf
      refine ga_icmp_gt C eX6_green_29 g6 g8 (fun hc => ?_) (fun hc => ?_)
      · rw [if_pos hc] at hf
        refine ga_il3 C eX6_green_32 ?_
        refine ga_push C eX6_green_33 ?_
        refine ga_icmp_ge C eX6_green_36 g8 (by decide) (fun hc => ?_) (fun hc => ?_)
        · rw [if_pos hc] at hf
          refine ga_il4 C eX6_green_39 ?_
          refine ga_push C eX6_green_41 ?_
          refine ga_push C eX6_green_42 ?_
          obtain ⟨r9, c9, hf⟩ := gb_some hf
          refine ga_cS3 C hK eX6_green_45 nRX6_108 mX6_in sX6_in (t_X6_in hg c9) (by decide) (Nat.le_of_ble_eq_true rfl) ?_
          obtain ⟨g10, hf⟩ := gg_some hf
          refine ga_if_ne C eX6_green_48 g10 (fun hc => ?_) (fun hc => ?_)
          · rw [if_pos hc] at hf
            refine ga_al0 C eX6_green_51 ?_
            refine ga_push C eX6_green_52 ?_
            obtain ⟨r11, M11, c11, hf⟩ := gb2_some hf
            refine ga_cV1 C hK eX6_green_53 nRX6_123 mX6_denied vX6_denied rfl (t_X6_denied hg c11) (by decide) (Nat.le_of_ble_eq_true rfl) ?_
            obtain ⟨b12, hf⟩ := gg_some hf
            exact ga_zretW C T eX6_green_56 b12 hf
          · rw [if_neg hc] at hf
            refine ga_il2 C eX6_green_57 ?_
            refine ga_is5 C eX6_green_58 ?_
            have L60 : ∀ (F : Nat) (M : gaM) (v1 : Int) (v3 : Int) (v4 : Int) (v5 : Int) (M13 : gaM), l_X6_green_60 G n F M v1 v3 v4 v5 = some M13 → ga_W X M13 87 [some (.inr (some 100)), none, none, none, none, none] [] → ga_W X M 60 [some (.inr (some 100)), some (.inl v1), none, some (.inl v3), some (.inl v4), some (.inl v5)] [] := by
              intro F
              induction F with
              | zero =>
                intro M v1 v3 v4 v5 M13 hf kx
                cases hf
              | succ F ih =>
                intro M v1 v3 v4 v5 M13 hf kx
                rw [l_X6_green_60] at hf
                refine ga_il5 C eX6_green_60 ?_
                refine ga_il3 C eX6_green_62 ?_
                obtain ⟨g14, hf⟩ := gg_some hf
                obtain ⟨g15, hf⟩ := gg_some hf
                refine ga_icmp_gt C eX6_green_63 g14 g15 (fun hc => ?_) (fun hc => ?_)
                · rw [if_pos hc] at hf
                  refine ga_al0 C eX6_green_66 ?_
                  refine ga_getR C hK eX6_green_67 lRX6_26 rfl rfl ?_
                  refine ga_push C eX6_green_70 ?_
                  refine ga_il1 C eX6_green_73 ?_
                  refine ga_imul C eX6_green_74 ?_
                  refine ga_il5 C eX6_green_75 ?_
                  refine ga_iadd C eX6_green_77 ?_
                  refine ga_il4 C eX6_green_78 ?_
                  obtain ⟨g17, hf⟩ := gg_some hf
                  obtain ⟨M16, q16, hf⟩ := gB_some hf
                  refine ga_iast C hK eX6_green_80 rfl (by decide) g17 q16 ?_
                  refine ga_ii5 C eX6_green_81 ?_
                  refine ga_goto C eX6_green_84 ?_
                  refine ga_forget [true, true, false, true, true, true] rfl ?_
                  exact ih _ _ _ _ _ _ hf kx
                · rw [if_neg hc] at hf
                  cases hf
                  exact ga_forget [true, false, false, false, false, false] rfl kx
            obtain ⟨M13, hl13, hf⟩ := gb_some hf
            refine ga_forget [true, true, false, true, true, true] rfl ?_
            refine L60 G _ _ _ _ _ _ hl13 ?_
            refine ga_al0 C eX6_green_87 ?_
            obtain ⟨r18, M18, c18, hf⟩ := gb2_some hf
            refine ga_cV0 C hK eX6_green_88 nRX6_126 mX6_granted vX6_granted rfl (t_X6_granted hg c18) (by decide) (Nat.le_of_ble_eq_true rfl) ?_
            obtain ⟨b19, hf⟩ := gg_some hf
            exact ga_zretW C T eX6_green_91 b19 hf
        · rw [if_neg hc] at hf
          refine ga_al0 C eX6_green_51 ?_
          refine ga_push C eX6_green_52 ?_
          obtain ⟨r20, M20, c20, hf⟩ := gb2_some hf
          refine ga_cV1 C hK eX6_green_53 nRX6_123 mX6_denied vX6_denied rfl (t_X6_denied hg c20) (by decide) (Nat.le_of_ble_eq_true rfl) ?_
          obtain ⟨b21, hf⟩ := gg_some hf
          exact ga_zretW C T eX6_green_56 b21 hf
      · rw [if_neg hc] at hf
        refine ga_al0 C eX6_green_51 ?_
        refine ga_push C eX6_green_52 ?_
        obtain ⟨r22, M22, c22, hf⟩ := gb2_some hf
        refine ga_cV1 C hK eX6_green_53 nRX6_123 mX6_denied vX6_denied rfl (t_X6_denied hg c22) (by decide) (Nat.le_of_ble_eq_true rfl) ?_
        obtain ⟨b23, hf⟩ := gg_some hf
        exact ga_zretW C T eX6_green_56 b23 hf
    · rw [if_neg hc] at hf
      refine ga_al0 C eX6_green_51 ?_
      refine ga_push C eX6_green_52 ?_
      obtain ⟨r24, M24, c24, hf⟩ := gb2_some hf
      refine ga_cV1 C hK eX6_green_53 nRX6_123 mX6_denied vX6_denied rfl (t_X6_denied hg c24) (by decide) (Nat.le_of_ble_eq_true rfl) ?_
      obtain ⟨b25, hf⟩ := gg_some hf
      exact ga_zretW C T eX6_green_56 b25 hf

set_option maxRecDepth 20000 in
set_option maxHeartbeats 4000000 in
theorem t_X6_told {n e cp G : Nat} (hg : gh n e cp) {M Mz : gaM} {v1 v2 : Int} {rz : Int}  (hf : f_X6_told G n M v1 v2 = some (rz, Mz)) : ga_Met yX6_told cX6_told 3 (some .int) 1 (gk n e cp) M [.inr (some 100), .inl v1, .inl v2] (some (.inl rz)) Mz := by
  refine ga_met (by decide) rfl (Nat.le_of_ble_eq_true rfl) ?_
  intro X C hK T
  show ga_W X M 0 [some (.inr (some 100)), some (.inl v1), some (.inl v2)] []
  unfold f_X6_told at hf
  refine ga_al0 C eX6_told_0 ?_
  refine ga_push C eX6_told_1 ?_
  obtain ⟨M1, q1, hf⟩ := gB_some hf
  refine ga_putI C hK eX6_told_2 lRX6_1 (by intro q hq; cases hq; exact ⟨rfl, rfl⟩) rfl rfl q1 ?_
  refine ga_al0 C eX6_told_5 ?_
  refine ga_il1 C eX6_told_6 ?_
  obtain ⟨r2, c2, hf⟩ := gb_some hf
  refine ga_cV1 C hK eX6_told_7 nRX6_119 mX6_isPlace vX6_isPlace rfl (t_X6_isPlace hg c2) (by decide) (Nat.le_of_ble_eq_true rfl) ?_
  obtain ⟨g3, hf⟩ := gg_some hf
  refine ga_if_eq C eX6_told_10 g3 (fun hc => ?_) (fun hc => ?_)
  · rw [if_pos hc] at hf
    refine ga_push C eX6_told_39 ?_
    exact ga_iretW C T eX6_told_40 hf
  · rw [if_neg hc] at hf
    refine ga_il2 C eX6_told_13 ?_
    refine ga_push C eX6_told_14 ?_
    refine ga_push C eX6_told_15 ?_
    obtain ⟨r4, c4, hf⟩ := gb_some hf
    refine ga_cS3 C hK eX6_told_18 nRX6_108 mX6_in sX6_in (t_X6_in hg c4) (by decide) (Nat.le_of_ble_eq_true rfl) ?_
    obtain ⟨g5, hf⟩ := gg_some hf
    refine ga_if_eq C eX6_told_21 g5 (fun hc => ?_) (fun hc => ?_)
    · rw [if_pos hc] at hf
      refine ga_push C eX6_told_39 ?_
      exact ga_iretW C T eX6_told_40 hf
    · rw [if_neg hc] at hf
      refine ga_al0 C eX6_told_24 ?_
      refine ga_getR C hK eX6_told_25 lRX6_26 rfl rfl ?_
      refine ga_push C eX6_told_28 ?_
      refine ga_il1 C eX6_told_31 ?_
      refine ga_imul C eX6_told_32 ?_
      refine ga_il2 C eX6_told_33 ?_
      refine ga_iadd C eX6_told_34 ?_
      obtain ⟨g6, hf⟩ := gg_some hf
      refine ga_iald C hK eX6_told_35 rfl (by decide) g6 ?_
      refine ga_goto C eX6_told_36 ?_
      exact ga_iretW C T eX6_told_40 hf

set_option maxRecDepth 20000 in
set_option maxHeartbeats 4000000 in
theorem t_X6_patience {n e cp G : Nat} (hg : gh n e cp) {M Mz : gaM} {v1 : Int} {rz : Int}  (hf : f_X6_patience G n M v1 = some (rz, Mz)) : ga_Met yX6_patience cX6_patience 2 (some .boolean) 1 (gk n e cp) M [.inr (some 100), .inl v1] (some (.inl rz)) Mz := by
  refine ga_met (by decide) rfl (Nat.le_of_ble_eq_true rfl) ?_
  intro X C hK T
  show ga_W X M 0 [some (.inr (some 100)), some (.inl v1)] []
  unfold f_X6_patience at hf
  refine ga_al0 C eX6_patience_0 ?_
  refine ga_push C eX6_patience_1 ?_
  obtain ⟨M1, q1, hf⟩ := gB_some hf
  refine ga_putI C hK eX6_patience_2 lRX6_1 (by intro q hq; cases hq; exact ⟨rfl, rfl⟩) rfl rfl q1 ?_
  refine ga_il1 C eX6_patience_5 ?_
  refine ga_push C eX6_patience_6 ?_
  refine ga_push C eX6_patience_7 ?_
  obtain ⟨r2, c2, hf⟩ := gb_some hf
  refine ga_cS3 C hK eX6_patience_10 nRX6_108 mX6_in sX6_in (t_X6_in hg c2) (by decide) (Nat.le_of_ble_eq_true rfl) ?_
  obtain ⟨g3, hf⟩ := gg_some hf
  refine ga_if_ne C eX6_patience_13 g3 (fun hc => ?_) (fun hc => ?_)
  · rw [if_pos hc] at hf
    refine ga_al0 C eX6_patience_16 ?_
    refine ga_push C eX6_patience_17 ?_
    obtain ⟨r4, M4, c4, hf⟩ := gb2_some hf
    refine ga_cV1 C hK eX6_patience_18 nRX6_123 mX6_denied vX6_denied rfl (t_X6_denied hg c4) (by decide) (Nat.le_of_ble_eq_true rfl) ?_
    obtain ⟨b5, hf⟩ := gg_some hf
    exact ga_zretW C T eX6_patience_21 b5 hf
  · rw [if_neg hc] at hf
    refine ga_al0 C eX6_patience_22 ?_
    refine ga_il1 C eX6_patience_23 ?_
    obtain ⟨M6, q6, hf⟩ := gB_some hf
    refine ga_putI C hK eX6_patience_24 lRX6_16 (by intro q hq; cases hq; exact ⟨rfl, rfl⟩) rfl rfl q6 ?_
    refine ga_al0 C eX6_patience_27 ?_
    obtain ⟨r7, M7, c7, hf⟩ := gb2_some hf
    refine ga_cV0 C hK eX6_patience_28 nRX6_126 mX6_granted vX6_granted rfl (t_X6_granted hg c7) (by decide) (Nat.le_of_ble_eq_true rfl) ?_
    obtain ⟨b8, hf⟩ := gg_some hf
    exact ga_zretW C T eX6_patience_31 b8 hf

set_option maxRecDepth 20000 in
set_option maxHeartbeats 4000000 in
theorem t_X6_job {n e cp G : Nat} (hg : gh n e cp) {M Mz : gaM} {v1 v2 v3 v4 v5 v6 : Int} {rz : Int}  (hf : f_X6_job G n M v1 v2 v3 v4 v5 v6 = some (rz, Mz)) : ga_Met yX6_job cX6_job 7 (some .int) 1 (gk n e cp) M [.inr (some 100), .inl v1, .inl v2, .inl v3, .inl v4, .inl v5, .inl v6] (some (.inl rz)) Mz := by
  refine ga_met (by decide) rfl (Nat.le_of_ble_eq_true rfl) ?_
  intro X C hK T
  show ga_W X M 0 [some (.inr (some 100)), some (.inl v1), some (.inl v2), some (.inl v3), some (.inl v4), some (.inl v5), some (.inl v6)] []
  unfold f_X6_job at hf
  refine ga_al0 C eX6_job_0 ?_
  refine ga_push C eX6_job_1 ?_
  obtain ⟨M1, q1, hf⟩ := gB_some hf
  refine ga_putI C hK eX6_job_2 lRX6_1 (by intro q hq; cases hq; exact ⟨rfl, rfl⟩) rfl rfl q1 ?_
  refine ga_al0 C eX6_job_5 ?_
  refine ga_il2 C eX6_job_6 ?_
  obtain ⟨r2, c2, hf⟩ := gb_some hf
  refine ga_cV1 C hK eX6_job_7 nRX6_119 mX6_isPlace vX6_isPlace rfl (t_X6_isPlace hg c2) (by decide) (Nat.le_of_ble_eq_true rfl) ?_
  obtain ⟨g3, hf⟩ := gg_some hf
  refine ga_if_ne C eX6_job_10 g3 (fun hc => ?_) (fun hc => ?_)
  · rw [if_pos hc] at hf
    refine ga_al0 C eX6_job_13 ?_
    refine ga_push C eX6_job_14 ?_
    obtain ⟨r4, M4, c4, hf⟩ := gb2_some hf
    refine ga_cV1 C hK eX6_job_15 nRX6_112 mX6_refused vX6_refused rfl (t_X6_refused hg c4) (by decide) (Nat.le_of_ble_eq_true rfl) ?_
    exact ga_iretW C T eX6_job_18 hf
  · rw [if_neg hc] at hf
    refine ga_il1 C eX6_job_19 ?_
    refine ga_push C eX6_job_20 ?_
    refine ga_push C eX6_job_21 ?_
    obtain ⟨r5, c5, hf⟩ := gb_some hf
    refine ga_cS3 C hK eX6_job_22 nRX6_108 mX6_in sX6_in (t_X6_in hg c5) (by decide) (Nat.le_of_ble_eq_true rfl) ?_
    obtain ⟨g6, hf⟩ := gg_some hf
    refine ga_if_eq C eX6_job_25 g6 (fun hc => ?_) (fun hc => ?_)
    · rw [if_pos hc] at hf
      refine ga_al0 C eX6_job_79 ?_
      refine ga_push C eX6_job_80 ?_
      obtain ⟨r7, M7, c7, hf⟩ := gb2_some hf
      refine ga_cV1 C hK eX6_job_81 nRX6_112 mX6_refused vX6_refused rfl (t_X6_refused hg c7) (by decide) (Nat.le_of_ble_eq_true rfl) ?_
      exact ga_iretW C T eX6_job_84 hf
    · rw [if_neg hc] at hf
      refine ga_il3 C eX6_job_28 ?_
      refine ga_push C eX6_job_29 ?_
      refine ga_push C eX6_job_30 ?_
      obtain ⟨r8, c8, hf⟩ := gb_some hf
      refine ga_cS3 C hK eX6_job_32 nRX6_108 mX6_in sX6_in (t_X6_in hg c8) (by decide) (Nat.le_of_ble_eq_true rfl) ?_
      obtain ⟨g9, hf⟩ := gg_some hf
      refine ga_if_eq C eX6_job_35 g9 (fun hc => ?_) (fun hc => ?_)
      · rw [if_pos hc] at hf
        refine ga_al0 C eX6_job_79 ?_
        refine ga_push C eX6_job_80 ?_
        obtain ⟨r10, M10, c10, hf⟩ := gb2_some hf
        refine ga_cV1 C hK eX6_job_81 nRX6_112 mX6_refused vX6_refused rfl (t_X6_refused hg c10) (by decide) (Nat.le_of_ble_eq_true rfl) ?_
        exact ga_iretW C T eX6_job_84 hf
      · rw [if_neg hc] at hf
        refine ga_il4 C eX6_job_38 ?_
        refine ga_al0 C eX6_job_40 ?_
        refine ga_getI C hK eX6_job_41 lRX6_130 rfl rfl ?_
        obtain ⟨g11, hf⟩ := gg_some hf
        obtain ⟨g12, hf⟩ := gg_some hf
        refine ga_icmp_lt C eX6_job_44 g11 g12 (fun hc => ?_) (fun hc => ?_)
        · rw [if_pos hc] at hf
          refine ga_il5 C eX6_job_47 ?_
          refine ga_push C eX6_job_49 ?_
          refine ga_push C eX6_job_50 ?_
          obtain ⟨r13, c13, hf⟩ := gb_some hf
          refine ga_cS3 C hK eX6_job_53 nRX6_108 mX6_in sX6_in (t_X6_in hg c13) (by decide) (Nat.le_of_ble_eq_true rfl) ?_
          obtain ⟨g14, hf⟩ := gg_some hf
          refine ga_if_eq C eX6_job_56 g14 (fun hc => ?_) (fun hc => ?_)
          · rw [if_pos hc] at hf
            refine ga_al0 C eX6_job_79 ?_
            refine ga_push C eX6_job_80 ?_
            obtain ⟨r15, M15, c15, hf⟩ := gb2_some hf
            refine ga_cV1 C hK eX6_job_81 nRX6_112 mX6_refused vX6_refused rfl (t_X6_refused hg c15) (by decide) (Nat.le_of_ble_eq_true rfl) ?_
            exact ga_iretW C T eX6_job_84 hf
          · rw [if_neg hc] at hf
            refine ga_il4 C eX6_job_59 ?_
            refine ga_il5 C eX6_job_61 ?_
            refine ga_il3 C eX6_job_63 ?_
            refine ga_isub C eX6_job_64 ?_
            obtain ⟨g16, hf⟩ := gg_some hf
            refine ga_icmp_gt C eX6_job_65 g11 g16 (fun hc => ?_) (fun hc => ?_)
            · rw [if_pos hc] at hf
              refine ga_il6 C eX6_job_68 ?_
              refine ga_push C eX6_job_70 ?_
              refine ga_push C eX6_job_71 ?_
              obtain ⟨r17, c17, hf⟩ := gb_some hf
              refine ga_cS3 C hK eX6_job_73 nRX6_108 mX6_in sX6_in (t_X6_in hg c17) (by decide) (Nat.le_of_ble_eq_true rfl) ?_
              obtain ⟨g18, hf⟩ := gg_some hf
              refine ga_if_ne C eX6_job_76 g18 (fun hc => ?_) (fun hc => ?_)
              · rw [if_pos hc] at hf
                refine ga_al0 C eX6_job_79 ?_
                refine ga_push C eX6_job_80 ?_
                obtain ⟨r19, M19, c19, hf⟩ := gb2_some hf
                refine ga_cV1 C hK eX6_job_81 nRX6_112 mX6_refused vX6_refused rfl (t_X6_refused hg c19) (by decide) (Nat.le_of_ble_eq_true rfl) ?_
                exact ga_iretW C T eX6_job_84 hf
              · rw [if_neg hc] at hf
                refine ga_al0 C eX6_job_85 ?_
                refine ga_getI C hK eX6_job_86 lRX6_105 rfl rfl ?_
                refine ga_push C eX6_job_89 ?_
                obtain ⟨g20, hf⟩ := gg_some hf
                refine ga_icmp_ne C eX6_job_91 g20 (by decide) (fun hc => ?_) (fun hc => ?_)
                · rw [if_pos hc] at hf
                  refine ga_al0 C eX6_job_94 ?_
                  refine ga_push C eX6_job_95 ?_
                  obtain ⟨r21, M21, c21, hf⟩ := gb2_some hf
                  refine ga_cV1 C hK eX6_job_96 nRX6_112 mX6_refused vX6_refused rfl (t_X6_refused hg c21) (by decide) (Nat.le_of_ble_eq_true rfl) ?_
                  exact ga_iretW C T eX6_job_99 hf
                · rw [if_neg hc] at hf
                  refine ga_al0 C eX6_job_100 ?_
                  refine ga_getR C hK eX6_job_101 lRX6_29 rfl rfl ?_
                  refine ga_al0 C eX6_job_104 ?_
                  refine ga_getI C hK eX6_job_105 lRX6_105 rfl rfl ?_
                  refine ga_il1 C eX6_job_108 ?_
                  obtain ⟨g23, hf⟩ := gg_some hf
                  obtain ⟨M22, q22, hf⟩ := gB_some hf
                  refine ga_iast C hK eX6_job_109 rfl (by decide) g23 q22 ?_
                  refine ga_al0 C eX6_job_110 ?_
                  refine ga_getR C hK eX6_job_111 lRX6_32 rfl rfl ?_
                  refine ga_al0 C eX6_job_114 ?_
                  refine ga_getI C hK eX6_job_115 lRX6_105 rfl rfl ?_
                  refine ga_il2 C eX6_job_118 ?_
                  obtain ⟨g25, hf⟩ := gg_some hf
                  obtain ⟨M24, q24, hf⟩ := gB_some hf
                  refine ga_iast C hK eX6_job_119 rfl (by decide) g25 q24 ?_
                  refine ga_al0 C eX6_job_120 ?_
                  refine ga_getR C hK eX6_job_121 lRX6_35 rfl rfl ?_
                  refine ga_al0 C eX6_job_124 ?_
                  refine ga_getI C hK eX6_job_125 lRX6_105 rfl rfl ?_
                  refine ga_il3 C eX6_job_128 ?_
                  obtain ⟨g27, hf⟩ := gg_some hf
                  obtain ⟨M26, q26, hf⟩ := gB_some hf
                  refine ga_iast C hK eX6_job_129 rfl (by decide) g27 q26 ?_
                  refine ga_al0 C eX6_job_130 ?_
                  refine ga_getR C hK eX6_job_131 lRX6_38 rfl rfl ?_
                  refine ga_al0 C eX6_job_134 ?_
                  refine ga_getI C hK eX6_job_135 lRX6_105 rfl rfl ?_
                  refine ga_il4 C eX6_job_138 ?_
                  obtain ⟨g29, hf⟩ := gg_some hf
                  obtain ⟨M28, q28, hf⟩ := gB_some hf
                  refine ga_iast C hK eX6_job_140 rfl (by decide) g29 q28 ?_
                  refine ga_al0 C eX6_job_141 ?_
                  refine ga_getR C hK eX6_job_142 lRX6_41 rfl rfl ?_
                  refine ga_al0 C eX6_job_145 ?_
                  refine ga_getI C hK eX6_job_146 lRX6_105 rfl rfl ?_
                  refine ga_il5 C eX6_job_149 ?_
                  obtain ⟨g31, hf⟩ := gg_some hf
                  obtain ⟨M30, q30, hf⟩ := gB_some hf
                  refine ga_iast C hK eX6_job_151 rfl (by decide) g31 q30 ?_
                  refine ga_al0 C eX6_job_152 ?_
                  refine ga_getR C hK eX6_job_153 lRX6_44 rfl rfl ?_
                  refine ga_al0 C eX6_job_156 ?_
                  refine ga_getI C hK eX6_job_157 lRX6_105 rfl rfl ?_
                  refine ga_il6 C eX6_job_160 ?_
                  obtain ⟨g33, hf⟩ := gg_some hf
                  obtain ⟨M32, q32, hf⟩ := gB_some hf
                  refine ga_iast C hK eX6_job_162 rfl (by decide) g33 q32 ?_
                  refine ga_al0 C eX6_job_163 ?_
                  refine ga_getR C hK eX6_job_164 lRX6_47 rfl rfl ?_
                  refine ga_al0 C eX6_job_167 ?_
                  refine ga_getI C hK eX6_job_168 lRX6_105 rfl rfl ?_
                  refine ga_push C eX6_job_171 ?_
                  obtain ⟨g35, hf⟩ := gg_some hf
                  obtain ⟨M34, q34, hf⟩ := gB_some hf
                  refine ga_iast C hK eX6_job_172 rfl (by decide) g35 q34 ?_
                  refine ga_al0 C eX6_job_173 ?_
                  refine ga_getR C hK eX6_job_174 lRX6_50 rfl rfl ?_
                  refine ga_al0 C eX6_job_177 ?_
                  refine ga_getI C hK eX6_job_178 lRX6_105 rfl rfl ?_
                  refine ga_push C eX6_job_181 ?_
                  obtain ⟨g37, hf⟩ := gg_some hf
                  obtain ⟨M36, q36, hf⟩ := gB_some hf
                  refine ga_iast C hK eX6_job_182 rfl (by decide) g37 q36 ?_
                  refine ga_al0 C eX6_job_183 ?_
                  refine ga_getR C hK eX6_job_184 lRX6_53 rfl rfl ?_
                  refine ga_al0 C eX6_job_187 ?_
                  refine ga_getI C hK eX6_job_188 lRX6_105 rfl rfl ?_
                  refine ga_push C eX6_job_191 ?_
                  obtain ⟨g39, hf⟩ := gg_some hf
                  obtain ⟨M38, q38, hf⟩ := gB_some hf
                  refine ga_iast C hK eX6_job_192 rfl (by decide) g39 q38 ?_
                  refine ga_al0 C eX6_job_193 ?_
                  refine ga_getR C hK eX6_job_194 lRX6_56 rfl rfl ?_
                  refine ga_al0 C eX6_job_197 ?_
                  refine ga_getI C hK eX6_job_198 lRX6_105 rfl rfl ?_
                  refine ga_push C eX6_job_201 ?_
                  obtain ⟨g41, hf⟩ := gg_some hf
                  obtain ⟨M40, q40, hf⟩ := gB_some hf
                  refine ga_iast C hK eX6_job_202 rfl (by decide) g41 q40 ?_
                  refine ga_al0 C eX6_job_203 ?_
                  refine ga_dup C eX6_job_204 ?_
                  refine ga_getI C hK eX6_job_205 lRX6_105 rfl rfl ?_
                  refine ga_push C eX6_job_208 ?_
                  refine ga_iadd C eX6_job_209 ?_
                  obtain ⟨M42, q42, hf⟩ := gB_some hf
                  refine ga_putI C hK eX6_job_210 lRX6_105 (by intro q hq; cases hq; exact ⟨rfl, rfl⟩) rfl rfl q42 ?_
                  refine ga_al0 C eX6_job_213 ?_
                  refine ga_al0 C eX6_job_214 ?_
                  refine ga_getI C hK eX6_job_215 lRX6_105 rfl rfl ?_
                  refine ga_push C eX6_job_218 ?_
                  refine ga_isub C eX6_job_219 ?_
                  obtain ⟨r43, M43, c43, hf⟩ := gb2_some hf
                  refine ga_cV1 C hK eX6_job_220 nRX6_116 mX6_done vX6_done rfl (t_X6_done hg c43) (by decide) (Nat.le_of_ble_eq_true rfl) ?_
                  exact ga_iretW C T eX6_job_223 hf
            · rw [if_neg hc] at hf
              refine ga_al0 C eX6_job_79 ?_
              refine ga_push C eX6_job_80 ?_
              obtain ⟨r44, M44, c44, hf⟩ := gb2_some hf
              refine ga_cV1 C hK eX6_job_81 nRX6_112 mX6_refused vX6_refused rfl (t_X6_refused hg c44) (by decide) (Nat.le_of_ble_eq_true rfl) ?_
              exact ga_iretW C T eX6_job_84 hf
        · rw [if_neg hc] at hf
          refine ga_al0 C eX6_job_79 ?_
          refine ga_push C eX6_job_80 ?_
          obtain ⟨r45, M45, c45, hf⟩ := gb2_some hf
          refine ga_cV1 C hK eX6_job_81 nRX6_112 mX6_refused vX6_refused rfl (t_X6_refused hg c45) (by decide) (Nat.le_of_ble_eq_true rfl) ?_
          exact ga_iretW C T eX6_job_84 hf

set_option maxRecDepth 20000 in
set_option maxHeartbeats 4000000 in
theorem t_X6_drop {n e cp G : Nat} (hg : gh n e cp) {M Mz : gaM} {v1 : Int} {rz : Int}  (hf : f_X6_drop G n M v1 = some (rz, Mz)) : ga_Met yX6_drop cX6_drop 2 (some .boolean) 1 (gk n e cp) M [.inr (some 100), .inl v1] (some (.inl rz)) Mz := by
  refine ga_met (by decide) rfl (Nat.le_of_ble_eq_true rfl) ?_
  intro X C hK T
  show ga_W X M 0 [some (.inr (some 100)), some (.inl v1)] []
  unfold f_X6_drop at hf
  refine ga_al0 C eX6_drop_0 ?_
  refine ga_push C eX6_drop_1 ?_
  obtain ⟨M1, q1, hf⟩ := gB_some hf
  refine ga_putI C hK eX6_drop_2 lRX6_1 (by intro q hq; cases hq; exact ⟨rfl, rfl⟩) rfl rfl q1 ?_
  refine ga_al0 C eX6_drop_5 ?_
  refine ga_il1 C eX6_drop_6 ?_
  obtain ⟨r2, c2, hf⟩ := gb_some hf
  refine ga_cV1 C hK eX6_drop_7 nRX6_133 mX6_isJob vX6_isJob rfl (t_X6_isJob hg c2) (by decide) (Nat.le_of_ble_eq_true rfl) ?_
  obtain ⟨g3, hf⟩ := gg_some hf
  refine ga_if_ne C eX6_drop_10 g3 (fun hc => ?_) (fun hc => ?_)
  · rw [if_pos hc] at hf
    refine ga_al0 C eX6_drop_13 ?_
    refine ga_push C eX6_drop_14 ?_
    obtain ⟨r4, M4, c4, hf⟩ := gb2_some hf
    refine ga_cV1 C hK eX6_drop_15 nRX6_123 mX6_denied vX6_denied rfl (t_X6_denied hg c4) (by decide) (Nat.le_of_ble_eq_true rfl) ?_
    obtain ⟨b5, hf⟩ := gg_some hf
    exact ga_zretW C T eX6_drop_18 b5 hf
  · rw [if_neg hc] at hf
    refine ga_al0 C eX6_drop_19 ?_
    refine ga_getR C hK eX6_drop_20 lRX6_47 rfl rfl ?_
    refine ga_il1 C eX6_drop_23 ?_
    obtain ⟨g6, hf⟩ := gg_some hf
    refine ga_iald C hK eX6_drop_24 rfl (by decide) g6 ?_
    obtain ⟨g7, hf⟩ := gg_some hf
    refine ga_if_eq C eX6_drop_25 g7 (fun hc => ?_) (fun hc => ?_)
    · rw [if_pos hc] at hf
      refine ga_al0 C eX6_drop_34 ?_
      refine ga_getR C hK eX6_drop_35 lRX6_47 rfl rfl ?_
      refine ga_il1 C eX6_drop_38 ?_
      refine ga_push C eX6_drop_39 ?_
      obtain ⟨M8, q8, hf⟩ := gB_some hf
      refine ga_iast C hK eX6_drop_40 rfl (by decide) g6 q8 ?_
      refine ga_al0 C eX6_drop_41 ?_
      obtain ⟨r9, M9, c9, hf⟩ := gb2_some hf
      refine ga_cV0 C hK eX6_drop_42 nRX6_126 mX6_granted vX6_granted rfl (t_X6_granted hg c9) (by decide) (Nat.le_of_ble_eq_true rfl) ?_
      obtain ⟨b10, hf⟩ := gg_some hf
      exact ga_zretW C T eX6_drop_45 b10 hf
    · rw [if_neg hc] at hf
      refine ga_al0 C eX6_drop_28 ?_
      refine ga_push C eX6_drop_29 ?_
      obtain ⟨r11, M11, c11, hf⟩ := gb2_some hf
      refine ga_cV1 C hK eX6_drop_30 nRX6_123 mX6_denied vX6_denied rfl (t_X6_denied hg c11) (by decide) (Nat.le_of_ble_eq_true rfl) ?_
      obtain ⟨b12, hf⟩ := gg_some hf
      exact ga_zretW C T eX6_drop_33 b12 hf

set_option maxRecDepth 20000 in
set_option maxHeartbeats 4000000 in
theorem t_X6_about {n e cp G : Nat} (hg : gh n e cp) {M Mz : gaM} {v1 v2 : Int} {rz : Int}  (hf : f_X6_about G n M v1 v2 = some (rz, Mz)) : ga_Met yX6_about cX6_about 3 (some .int) 1 (gk n e cp) M [.inr (some 100), .inl v1, .inl v2] (some (.inl rz)) Mz := by
  refine ga_met (by decide) rfl (Nat.le_of_ble_eq_true rfl) ?_
  intro X C hK T
  show ga_W X M 0 [some (.inr (some 100)), some (.inl v1), some (.inl v2)] []
  unfold f_X6_about at hf
  refine ga_al0 C eX6_about_0 ?_
  refine ga_push C eX6_about_1 ?_
  obtain ⟨M1, q1, hf⟩ := gB_some hf
  refine ga_putI C hK eX6_about_2 lRX6_1 (by intro q hq; cases hq; exact ⟨rfl, rfl⟩) rfl rfl q1 ?_
  refine ga_al0 C eX6_about_5 ?_
  refine ga_il1 C eX6_about_6 ?_
  obtain ⟨r2, c2, hf⟩ := gb_some hf
  refine ga_cV1 C hK eX6_about_7 nRX6_133 mX6_isJob vX6_isJob rfl (t_X6_isJob hg c2) (by decide) (Nat.le_of_ble_eq_true rfl) ?_
  obtain ⟨g3, hf⟩ := gg_some hf
  refine ga_if_ne C eX6_about_10 g3 (fun hc => ?_) (fun hc => ?_)
  · rw [if_pos hc] at hf
    refine ga_push C eX6_about_13 ?_
    exact ga_iretW C T eX6_about_14 hf
  · rw [if_neg hc] at hf
    refine ga_il2 C eX6_about_15 ?_
    obtain ⟨g4, hf⟩ := gg_some hf
    by_cases hc0 : v2 = 0
    · rw [if_pos hc0] at hf
      refine ga_tabIn 0 C eX6_about_16 hc0 (by decide) (by decide) rfl (by decide) (tgt := 72) ?_
      refine ga_al0 C eX6_about_72 ?_
      refine ga_getR C hK eX6_about_73 lRX6_47 rfl rfl ?_
      refine ga_il1 C eX6_about_76 ?_
      obtain ⟨g5, hf⟩ := gg_some hf
      refine ga_iald C hK eX6_about_77 rfl (by decide) g5 ?_
      exact ga_iretW C T eX6_about_78 hf
    · rw [if_neg hc0] at hf
      by_cases hc1 : v2 = 1
      · rw [if_pos hc1] at hf
        refine ga_tabIn 1 C eX6_about_16 hc1 (by decide) (by decide) rfl (by decide) (tgt := 79) ?_
        refine ga_al0 C eX6_about_79 ?_
        refine ga_getR C hK eX6_about_80 lRX6_50 rfl rfl ?_
        refine ga_il1 C eX6_about_83 ?_
        obtain ⟨g6, hf⟩ := gg_some hf
        refine ga_iald C hK eX6_about_84 rfl (by decide) g6 ?_
        exact ga_iretW C T eX6_about_85 hf
      · rw [if_neg hc1] at hf
        by_cases hc2 : v2 = 2
        · rw [if_pos hc2] at hf
          refine ga_tabIn 2 C eX6_about_16 hc2 (by decide) (by decide) rfl (by decide) (tgt := 86) ?_
          refine ga_al0 C eX6_about_86 ?_
          refine ga_getR C hK eX6_about_87 lRX6_53 rfl rfl ?_
          refine ga_il1 C eX6_about_90 ?_
          obtain ⟨g7, hf⟩ := gg_some hf
          refine ga_iald C hK eX6_about_91 rfl (by decide) g7 ?_
          exact ga_iretW C T eX6_about_92 hf
        · rw [if_neg hc2] at hf
          by_cases hc3 : v2 = 3
          · rw [if_pos hc3] at hf
            refine ga_tabIn 3 C eX6_about_16 hc3 (by decide) (by decide) rfl (by decide) (tgt := 93) ?_
            refine ga_al0 C eX6_about_93 ?_
            refine ga_getR C hK eX6_about_94 lRX6_56 rfl rfl ?_
            refine ga_il1 C eX6_about_97 ?_
            obtain ⟨g8, hf⟩ := gg_some hf
            refine ga_iald C hK eX6_about_98 rfl (by decide) g8 ?_
            exact ga_iretW C T eX6_about_99 hf
          · rw [if_neg hc3] at hf
            by_cases hc4 : v2 = 4
            · rw [if_pos hc4] at hf
              refine ga_tabIn 4 C eX6_about_16 hc4 (by decide) (by decide) rfl (by decide) (tgt := 100) ?_
              refine ga_al0 C eX6_about_100 ?_
              refine ga_getR C hK eX6_about_101 lRX6_29 rfl rfl ?_
              refine ga_il1 C eX6_about_104 ?_
              obtain ⟨g9, hf⟩ := gg_some hf
              refine ga_iald C hK eX6_about_105 rfl (by decide) g9 ?_
              exact ga_iretW C T eX6_about_106 hf
            · rw [if_neg hc4] at hf
              by_cases hc5 : v2 = 5
              · rw [if_pos hc5] at hf
                refine ga_tabIn 5 C eX6_about_16 hc5 (by decide) (by decide) rfl (by decide) (tgt := 107) ?_
                refine ga_al0 C eX6_about_107 ?_
                refine ga_getR C hK eX6_about_108 lRX6_32 rfl rfl ?_
                refine ga_il1 C eX6_about_111 ?_
                obtain ⟨g10, hf⟩ := gg_some hf
                refine ga_iald C hK eX6_about_112 rfl (by decide) g10 ?_
                exact ga_iretW C T eX6_about_113 hf
              · rw [if_neg hc5] at hf
                by_cases hc6 : v2 = 6
                · rw [if_pos hc6] at hf
                  refine ga_tabIn 6 C eX6_about_16 hc6 (by decide) (by decide) rfl (by decide) (tgt := 114) ?_
                  refine ga_al0 C eX6_about_114 ?_
                  refine ga_getR C hK eX6_about_115 lRX6_35 rfl rfl ?_
                  refine ga_il1 C eX6_about_118 ?_
                  obtain ⟨g11, hf⟩ := gg_some hf
                  refine ga_iald C hK eX6_about_119 rfl (by decide) g11 ?_
                  exact ga_iretW C T eX6_about_120 hf
                · rw [if_neg hc6] at hf
                  by_cases hc7 : v2 = 7
                  · rw [if_pos hc7] at hf
                    refine ga_tabIn 7 C eX6_about_16 hc7 (by decide) (by decide) rfl (by decide) (tgt := 121) ?_
                    refine ga_al0 C eX6_about_121 ?_
                    refine ga_getR C hK eX6_about_122 lRX6_38 rfl rfl ?_
                    refine ga_il1 C eX6_about_125 ?_
                    obtain ⟨g12, hf⟩ := gg_some hf
                    refine ga_iald C hK eX6_about_126 rfl (by decide) g12 ?_
                    exact ga_iretW C T eX6_about_127 hf
                  · rw [if_neg hc7] at hf
                    by_cases hc8 : v2 = 8
                    · rw [if_pos hc8] at hf
                      refine ga_tabIn 8 C eX6_about_16 hc8 (by decide) (by decide) rfl (by decide) (tgt := 128) ?_
                      refine ga_al0 C eX6_about_128 ?_
                      refine ga_getR C hK eX6_about_129 lRX6_41 rfl rfl ?_
                      refine ga_il1 C eX6_about_132 ?_
                      obtain ⟨g13, hf⟩ := gg_some hf
                      refine ga_iald C hK eX6_about_133 rfl (by decide) g13 ?_
                      exact ga_iretW C T eX6_about_134 hf
                    · rw [if_neg hc8] at hf
                      by_cases hc9 : v2 = 9
                      · rw [if_pos hc9] at hf
                        refine ga_tabIn 9 C eX6_about_16 hc9 (by decide) (by decide) rfl (by decide) (tgt := 135) ?_
                        refine ga_al0 C eX6_about_135 ?_
                        refine ga_getR C hK eX6_about_136 lRX6_44 rfl rfl ?_
                        refine ga_il1 C eX6_about_139 ?_
                        obtain ⟨g14, hf⟩ := gg_some hf
                        refine ga_iald C hK eX6_about_140 rfl (by decide) g14 ?_
                        exact ga_iretW C T eX6_about_141 hf
                      · rw [if_neg hc9] at hf
                        refine ga_tabOut C eX6_about_16 g4 (by omega) (by decide) (tgt := 142) ?_
                        refine ga_push C eX6_about_142 ?_
                        exact ga_iretW C T eX6_about_143 hf

set_option maxRecDepth 20000 in
set_option maxHeartbeats 4000000 in
theorem t_X6_puts {n e cp G : Nat} (hg : gh n e cp) {M Mz : gaM} {v1 v2 v3 v4 : Int}  (hf : f_X6_puts G n M v1 v2 v3 v4 = some Mz) : ga_Met yX6_puts cX6_puts 6 none 0 (gk n e cp) M [.inr (some 100), .inl v1, .inl v2, .inl v3, .inl v4] none Mz := by
  refine ga_met (by decide) rfl (Nat.le_of_ble_eq_true rfl) ?_
  intro X C hK T
  show ga_W X M 0 [some (.inr (some 100)), some (.inl v1), some (.inl v2), some (.inl v3), some (.inl v4), none] []
  unfold f_X6_puts at hf
  refine ga_il3 C eX6_puts_0 ?_
  refine ga_is5 C eX6_puts_1 ?_
  have L3 : ∀ (F : Nat) (M : gaM) (v1 : Int) (v2 : Int) (v3 : Int) (v4 : Int) (v5 : Int) (M1 : gaM), l_X6_puts_3 G n F M v1 v2 v3 v4 v5 = some M1 → ga_W X M1 40 [none, none, none, none, none, none] [] → ga_W X M 3 [some (.inr (some 100)), some (.inl v1), some (.inl v2), some (.inl v3), some (.inl v4), some (.inl v5)] [] := by
    intro F
    induction F with
    | zero =>
      intro M v1 v2 v3 v4 v5 M1 hf kx
      cases hf
    | succ F ih =>
      intro M v1 v2 v3 v4 v5 M1 hf kx
      rw [l_X6_puts_3] at hf
      refine ga_il5 C eX6_puts_3 ?_
      refine ga_il3 C eX6_puts_5 ?_
      refine ga_al0 C eX6_puts_6 ?_
      refine ga_getR C hK eX6_puts_7 lRX6_35 rfl rfl ?_
      refine ga_il1 C eX6_puts_10 ?_
      obtain ⟨g2, hf⟩ := gg_some hf
      refine ga_iald C hK eX6_puts_11 rfl (by decide) g2 ?_
      refine ga_iadd C eX6_puts_12 ?_
      obtain ⟨g3, hf⟩ := gg_some hf
      obtain ⟨g4, hf⟩ := gg_some hf
      refine ga_icmp_ge C eX6_puts_13 g3 g4 (fun hc => ?_) (fun hc => ?_)
      · rw [if_pos hc] at hf
        refine ga_al0 C eX6_puts_16 ?_
        refine ga_getR C hK eX6_puts_17 lRX6_59 rfl rfl ?_
        refine ga_push C eX6_puts_20 ?_
        refine ga_il2 C eX6_puts_23 ?_
        refine ga_imul C eX6_puts_24 ?_
        refine ga_il5 C eX6_puts_25 ?_
        refine ga_iadd C eX6_puts_27 ?_
        refine ga_dup2 C eX6_puts_28 ?_
        obtain ⟨g5, hf⟩ := gg_some hf
        refine ga_iald C hK eX6_puts_29 rfl (by decide) g5 ?_
        refine ga_il4 C eX6_puts_30 ?_
        refine ga_iadd C eX6_puts_32 ?_
        obtain ⟨M6, q6, hf⟩ := gB_some hf
        refine ga_iast C hK eX6_puts_33 rfl (by decide) g5 q6 ?_
        refine ga_ii5 C eX6_puts_34 ?_
        refine ga_goto C eX6_puts_37 ?_
        refine ga_forget [true, true, true, true, true, true] rfl ?_
        exact ih _ _ _ _ _ _ _ hf kx
      · rw [if_neg hc] at hf
        cases hf
        exact ga_forget [false, false, false, false, false, false] rfl kx
  obtain ⟨M1, hl1, hf⟩ := gb_some hf
  refine ga_forget [true, true, true, true, true, true] rfl ?_
  refine L3 G _ _ _ _ _ _ _ hl1 ?_
  exact ga_vretW C T eX6_puts_40 hf

set_option maxRecDepth 20000 in
set_option maxHeartbeats 4000000 in
theorem t_X6_uses {n e cp G : Nat} (hg : gh n e cp) {M Mz : gaM}  (hf : f_X6_uses G n M = some Mz) : ga_Met yX6_uses cX6_uses 2 none 1 (gk n e cp) M [.inr (some 100)] none Mz := by
  refine ga_met (by decide) rfl (Nat.le_of_ble_eq_true rfl) ?_
  intro X C hK T
  show ga_W X M 0 [some (.inr (some 100)), none] []
  unfold f_X6_uses at hf
  refine ga_push C eX6_uses_0 ?_
  refine ga_is1 C eX6_uses_1 ?_
  have L2 : ∀ (F : Nat) (M : gaM) (v1 : Int) (M1 : gaM), l_X6_uses_2 G n F M v1 = some M1 → ga_W X M1 22 [some (.inr (some 100)), none] [] → ga_W X M 2 [some (.inr (some 100)), some (.inl v1)] [] := by
    intro F
    induction F with
    | zero =>
      intro M v1 M1 hf kx
      cases hf
    | succ F ih =>
      intro M v1 M1 hf kx
      rw [l_X6_uses_2] at hf
      refine ga_il1 C eX6_uses_2 ?_
      refine ga_push C eX6_uses_3 ?_
      obtain ⟨g2, hf⟩ := gg_some hf
      refine ga_icmp_ge C eX6_uses_6 g2 (by decide) (fun hc => ?_) (fun hc => ?_)
      · rw [if_pos hc] at hf
        refine ga_al0 C eX6_uses_9 ?_
        refine ga_getR C hK eX6_uses_10 lRX6_59 rfl rfl ?_
        refine ga_il1 C eX6_uses_13 ?_
        refine ga_push C eX6_uses_14 ?_
        obtain ⟨g4, hf⟩ := gg_some hf
        obtain ⟨M3, q3, hf⟩ := gB_some hf
        refine ga_iast C hK eX6_uses_15 rfl (by decide) g4 q3 ?_
        refine ga_ii1 C eX6_uses_16 ?_
        refine ga_goto C eX6_uses_19 ?_
        refine ga_forget [true, true] rfl ?_
        exact ih _ _ _ hf kx
      · rw [if_neg hc] at hf
        cases hf
        exact ga_forget [true, false] rfl kx
  obtain ⟨M1, hl1, hf⟩ := gb_some hf
  refine ga_forget [true, true] rfl ?_
  refine L2 G _ _ _ hl1 ?_
  refine ga_push C eX6_uses_22 ?_
  refine ga_is1 C eX6_uses_23 ?_
  have L24 : ∀ (F : Nat) (M : gaM) (v1 : Int) (M5 : gaM), l_X6_uses_24 G n F M v1 = some M5 → ga_W X M5 66 [none, none] [] → ga_W X M 24 [some (.inr (some 100)), some (.inl v1)] [] := by
    intro F
    induction F with
    | zero =>
      intro M v1 M5 hf kx
      cases hf
    | succ F ih =>
      intro M v1 M5 hf kx
      rw [l_X6_uses_24] at hf
      refine ga_il1 C eX6_uses_24 ?_
      refine ga_al0 C eX6_uses_25 ?_
      refine ga_getI C hK eX6_uses_26 lRX6_105 rfl rfl ?_
      obtain ⟨g6, hf⟩ := gg_some hf
      obtain ⟨g7, hf⟩ := gg_some hf
      refine ga_icmp_ge C eX6_uses_29 g6 g7 (fun hc => ?_) (fun hc => ?_)
      · rw [if_pos hc] at hf
        refine ga_al0 C eX6_uses_32 ?_
        refine ga_getR C hK eX6_uses_33 lRX6_47 rfl rfl ?_
        refine ga_il1 C eX6_uses_36 ?_
        obtain ⟨g8, hf⟩ := gg_some hf
        refine ga_iald C hK eX6_uses_37 rfl (by decide) g8 ?_
        refine ga_push C eX6_uses_38 ?_
        obtain ⟨g9, hf⟩ := gg_some hf
        obtain ⟨M10, hx, hf⟩ := gb_some hf
        have kx10 : ga_W X M10 60 [some (.inr (some 100)), some (.inl v1)] [] := by
          refine ga_ii1 C eX6_uses_60 ?_
          refine ga_goto C eX6_uses_63 ?_
          refine ga_forget [true, true] rfl ?_
          exact ih _ _ _ hf kx
        clear hf
        have hf := hx
        refine ga_icmp_ne C eX6_uses_39 g9 (by decide) (fun hc => ?_) (fun hc => ?_)
        · rw [if_pos hc] at hf
          refine ga_al0 C eX6_uses_42 ?_
          refine ga_il1 C eX6_uses_43 ?_
          refine ga_al0 C eX6_uses_44 ?_
          refine ga_getR C hK eX6_uses_45 lRX6_50 rfl rfl ?_
          refine ga_il1 C eX6_uses_48 ?_
          refine ga_iald C hK eX6_uses_49 rfl (by decide) g8 ?_
          refine ga_al0 C eX6_uses_50 ?_
          refine ga_getR C hK eX6_uses_51 lRX6_53 rfl rfl ?_
          refine ga_il1 C eX6_uses_54 ?_
          refine ga_iald C hK eX6_uses_55 rfl (by decide) g8 ?_
          refine ga_push C eX6_uses_56 ?_
          obtain ⟨M11, c11, hf⟩ := gb_some hf
          refine ga_cV4 C hK eX6_uses_57 nRX6_136 mX6_puts vX6_puts rfl (t_X6_puts hg c11) (by decide) (Nat.le_of_ble_eq_true rfl) ?_
          cases hf
          exact ga_forget [true, true] rfl kx10
        · rw [if_neg hc] at hf
          cases hf
          exact ga_forget [true, true] rfl kx10
      · rw [if_neg hc] at hf
        cases hf
        exact ga_forget [false, false] rfl kx
  obtain ⟨M5, hl5, hf⟩ := gb_some hf
  refine ga_forget [true, true] rfl ?_
  refine L24 G _ _ _ hl5 ?_
  exact ga_vretW C T eX6_uses_66 hf

set_option maxRecDepth 20000 in
set_option maxHeartbeats 4000000 in
theorem t_X6_hasRoom {n e cp G : Nat} (hg : gh n e cp) {M : gaM} {v1 v2 v3 : Int} {rz : Int}  (hf : f_X6_hasRoom G n M v1 v2 v3 = some rz) : ga_Met yX6_hasRoom cX6_hasRoom 6 (some .boolean) 0 (gk n e cp) M [.inr (some 100), .inl v1, .inl v2, .inl v3] (some (.inl rz)) M := by
  refine ga_met (by decide) rfl (Nat.le_of_ble_eq_true rfl) ?_
  intro X C hK T
  show ga_W X M 0 [some (.inr (some 100)), some (.inl v1), some (.inl v2), some (.inl v3), none, none] []
  unfold f_X6_hasRoom at hf
  refine ga_push C eX6_hasRoom_0 ?_
  refine ga_is4 C eX6_hasRoom_1 ?_
  refine ga_il3 C eX6_hasRoom_3 ?_
  refine ga_is5 C eX6_hasRoom_4 ?_
  have L6 : ∀ (F : Nat) (v1 : Int) (v2 : Int) (v3 : Int) (v4 : Int) (v5 : Int) (x4_1 : Int), l_X6_hasRoom_6 G n M F v1 v2 v3 v4 v5 = some x4_1 → ga_W X M 59 [none, none, none, none, some (.inl x4_1), none] [] → ga_W X M 6 [some (.inr (some 100)), some (.inl v1), some (.inl v2), some (.inl v3), some (.inl v4), some (.inl v5)] [] := by
    intro F
    induction F with
    | zero =>
      intro v1 v2 v3 v4 v5 x4_1 hf kx
      cases hf
    | succ F ih =>
      intro v1 v2 v3 v4 v5 x4_1 hf kx
      rw [l_X6_hasRoom_6] at hf
      refine ga_il5 C eX6_hasRoom_6 ?_
      refine ga_il3 C eX6_hasRoom_8 ?_
      refine ga_al0 C eX6_hasRoom_9 ?_
      refine ga_getR C hK eX6_hasRoom_10 lRX6_35 rfl rfl ?_
      refine ga_il1 C eX6_hasRoom_13 ?_
      obtain ⟨g2, hf⟩ := gg_some hf
      refine ga_iald C hK eX6_hasRoom_14 rfl (by decide) g2 ?_
      refine ga_iadd C eX6_hasRoom_15 ?_
      obtain ⟨g3, hf⟩ := gg_some hf
      obtain ⟨g4, hf⟩ := gg_some hf
      refine ga_icmp_ge C eX6_hasRoom_16 g3 g4 (fun hc => ?_) (fun hc => ?_)
      · rw [if_pos hc] at hf
        refine ga_il4 C eX6_hasRoom_19 ?_
        obtain ⟨g5, hf⟩ := gg_some hf
        refine ga_if_eq C eX6_hasRoom_21 g5 (fun hc => ?_) (fun hc => ?_)
        · rw [if_pos hc] at hf
          cases hf
          exact ga_forget [false, false, false, false, true, false] rfl kx
        · rw [if_neg hc] at hf
          refine ga_al0 C eX6_hasRoom_24 ?_
          refine ga_getR C hK eX6_hasRoom_25 lRX6_59 rfl rfl ?_
          refine ga_push C eX6_hasRoom_28 ?_
          refine ga_il2 C eX6_hasRoom_31 ?_
          refine ga_imul C eX6_hasRoom_32 ?_
          refine ga_il5 C eX6_hasRoom_33 ?_
          refine ga_iadd C eX6_hasRoom_35 ?_
          obtain ⟨g6, hf⟩ := gg_some hf
          refine ga_iald C hK eX6_hasRoom_36 rfl (by decide) g6 ?_
          refine ga_al0 C eX6_hasRoom_37 ?_
          refine ga_getR C hK eX6_hasRoom_38 lRX6_19 rfl rfl ?_
          refine ga_il2 C eX6_hasRoom_41 ?_
          obtain ⟨g7, hf⟩ := gg_some hf
          refine ga_iald C hK eX6_hasRoom_42 rfl (by decide) g7 ?_
          obtain ⟨g8, hf⟩ := gg_some hf
          obtain ⟨g9, hf⟩ := gg_some hf
          obtain ⟨s0_10, hx, hf⟩ := gb_some hf
          have kx10 : ga_W X M 51 [some (.inr (some 100)), some (.inl v1), some (.inl v2), some (.inl v3), none, some (.inl v5)] [.inl s0_10] := by
            refine ga_is4 C eX6_hasRoom_51 ?_
            refine ga_ii5 C eX6_hasRoom_53 ?_
            refine ga_goto C eX6_hasRoom_56 ?_
            refine ga_forget [true, true, true, true, true, true] rfl ?_
            exact ih _ _ _ _ _ _ hf kx
          clear hf
          have hf := hx
          refine ga_icmp_ge C eX6_hasRoom_43 g8 g9 (fun hc => ?_) (fun hc => ?_)
          · rw [if_pos hc] at hf
            refine ga_push C eX6_hasRoom_46 ?_
            refine ga_goto C eX6_hasRoom_47 ?_
            cases hf
            exact ga_forget [true, true, true, true, false, true] rfl kx10
          · rw [if_neg hc] at hf
            refine ga_push C eX6_hasRoom_50 ?_
            cases hf
            exact ga_forget [true, true, true, true, false, true] rfl kx10
      · rw [if_neg hc] at hf
        cases hf
        exact ga_forget [false, false, false, false, true, false] rfl kx
  obtain ⟨x4_1, hl1, hf⟩ := gb_some hf
  refine ga_forget [true, true, true, true, true, true] rfl ?_
  refine L6 G _ _ _ _ _ _ hl1 ?_
  refine ga_il4 C eX6_hasRoom_59 ?_
  obtain ⟨b11, hf⟩ := gg_some hf
  exact ga_zret0 C T eX6_hasRoom_61 b11 hf

set_option maxRecDepth 20000 in
set_option maxHeartbeats 4000000 in
theorem t_X6_costOf {n e cp G : Nat} (hg : gh n e cp) {M : gaM} {v1 v2 v3 : Int} {rz : Int}  (hf : f_X6_costOf G n M v1 v2 v3 = some rz) : ga_Met yX6_costOf cX6_costOf 6 (some .int) 0 (gk n e cp) M [.inr (some 100), .inl v1, .inl v2, .inl v3] (some (.inl rz)) M := by
  refine ga_met (by decide) rfl (Nat.le_of_ble_eq_true rfl) ?_
  intro X C hK T
  show ga_W X M 0 [some (.inr (some 100)), some (.inl v1), some (.inl v2), some (.inl v3), none, none] []
  unfold f_X6_costOf at hf
  refine ga_al0 C eX6_costOf_0 ?_
  refine ga_getR C hK eX6_costOf_1 lRX6_44 rfl rfl ?_
  refine ga_il1 C eX6_costOf_4 ?_
  obtain ⟨g1, hf⟩ := gg_some hf
  refine ga_iald C hK eX6_costOf_5 rfl (by decide) g1 ?_
  refine ga_al0 C eX6_costOf_6 ?_
  refine ga_getR C hK eX6_costOf_7 lRX6_23 rfl rfl ?_
  refine ga_push C eX6_costOf_10 ?_
  refine ga_al0 C eX6_costOf_11 ?_
  refine ga_getR C hK eX6_costOf_12 lRX6_32 rfl rfl ?_
  refine ga_il1 C eX6_costOf_15 ?_
  refine ga_iald C hK eX6_costOf_16 rfl (by decide) g1 ?_
  refine ga_imul C eX6_costOf_17 ?_
  refine ga_il2 C eX6_costOf_18 ?_
  refine ga_iadd C eX6_costOf_19 ?_
  obtain ⟨g2, hf⟩ := gg_some hf
  refine ga_iald C hK eX6_costOf_20 rfl (by decide) g2 ?_
  refine ga_imul C eX6_costOf_21 ?_
  refine ga_is4 C eX6_costOf_22 ?_
  refine ga_il3 C eX6_costOf_24 ?_
  refine ga_is5 C eX6_costOf_25 ?_
  have L27 : ∀ (F : Nat) (v1 : Int) (v2 : Int) (v3 : Int) (v4 : Int) (v5 : Int) (x4_3 : Int), l_X6_costOf_27 G n M F v1 v2 v3 v4 v5 = some x4_3 → ga_W X M 64 [none, none, none, none, some (.inl x4_3), none] [] → ga_W X M 27 [some (.inr (some 100)), some (.inl v1), some (.inl v2), some (.inl v3), some (.inl v4), some (.inl v5)] [] := by
    intro F
    induction F with
    | zero =>
      intro v1 v2 v3 v4 v5 x4_3 hf kx
      cases hf
    | succ F ih =>
      intro v1 v2 v3 v4 v5 x4_3 hf kx
      rw [l_X6_costOf_27] at hf
      refine ga_il5 C eX6_costOf_27 ?_
      refine ga_il3 C eX6_costOf_29 ?_
      refine ga_al0 C eX6_costOf_30 ?_
      refine ga_getR C hK eX6_costOf_31 lRX6_35 rfl rfl ?_
      refine ga_il1 C eX6_costOf_34 ?_
      obtain ⟨g4, hf⟩ := gg_some hf
      refine ga_iald C hK eX6_costOf_35 rfl (by decide) g4 ?_
      refine ga_iadd C eX6_costOf_36 ?_
      obtain ⟨g5, hf⟩ := gg_some hf
      obtain ⟨g6, hf⟩ := gg_some hf
      refine ga_icmp_ge C eX6_costOf_37 g5 g6 (fun hc => ?_) (fun hc => ?_)
      · rw [if_pos hc] at hf
        refine ga_il4 C eX6_costOf_40 ?_
        refine ga_al0 C eX6_costOf_42 ?_
        refine ga_getR C hK eX6_costOf_43 lRX6_26 rfl rfl ?_
        refine ga_push C eX6_costOf_46 ?_
        refine ga_il2 C eX6_costOf_49 ?_
        refine ga_imul C eX6_costOf_50 ?_
        refine ga_il5 C eX6_costOf_51 ?_
        refine ga_iadd C eX6_costOf_53 ?_
        obtain ⟨g7, hf⟩ := gg_some hf
        refine ga_iald C hK eX6_costOf_54 rfl (by decide) g7 ?_
        refine ga_iadd C eX6_costOf_55 ?_
        refine ga_is4 C eX6_costOf_56 ?_
        refine ga_ii5 C eX6_costOf_58 ?_
        refine ga_goto C eX6_costOf_61 ?_
        refine ga_forget [true, true, true, true, true, true] rfl ?_
        exact ih _ _ _ _ _ _ hf kx
      · rw [if_neg hc] at hf
        cases hf
        exact ga_forget [false, false, false, false, true, false] rfl kx
  obtain ⟨x4_3, hl3, hf⟩ := gb_some hf
  refine ga_forget [true, true, true, true, true, true] rfl ?_
  refine L27 G _ _ _ _ _ _ hl3 ?_
  refine ga_il4 C eX6_costOf_64 ?_
  exact ga_iret0 C T eX6_costOf_66 hf


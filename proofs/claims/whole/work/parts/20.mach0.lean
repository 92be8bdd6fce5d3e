-- the list's get, by hand: checkIndex within its range, elementData
theorem ga_null {X : gaX} {cc : ByteArray} {own : String} {dp : Nat} {M : gaM} {pc pc' : Nat} {lv : List (Option gaV)} {st : List gaV} (C : ga_C X cc own dp) (d : gd cc pc .aconst_null 1 pc') (k : ga_W X M pc' lv (.inr none :: st)) : ga_W X M pc lv st := by
  obtain ⟨p, l, e, R, s, m, args, below, meth, c, D, E, A, nL, cells, slots, Q, ad, K⟩ := X
  obtain ⟨hx, hb, -⟩ := C
  obtain ⟨d, rfl⟩ := d
  intro H locs ls hR hS hL
  exact lv_null hx hb d (k H locs ls hR hS hL)
theorem t_chk3 {K : gaK} {M : gaM} {v0 v1 : Int} (h0 : ok v0) (h1 : ok v1) (h : 0 ≤ v0 ∧ v0 < v1) : ga_Met yJ3_checkIndex_8e157 cJ3_checkIndex_8e157 3 (some .int) 0 K M [.inl v0, .inl v1, .inr none] (some (.inl v0)) M := by
  refine ga_met (by decide) rfl (Nat.le_of_ble_eq_true rfl) ?_
  intro X C hK T
  show ga_W X M 0 [some (.inl v0), some (.inl v1), some (.inr none)] []
  refine ga_il0 C eJ3_checkIndex_8e157_0 ?_
  refine ga_if_lt C eJ3_checkIndex_8e157_1 h0 (fun _ => ?_) (fun hc => absurd h.1 hc)
  refine ga_il0 C eJ3_checkIndex_8e157_4 ?_
  refine ga_il1 C eJ3_checkIndex_8e157_5 ?_
  refine ga_icmp_lt C eJ3_checkIndex_8e157_6 h0 h1 (fun hc => absurd hc (by omega)) (fun _ => ?_)
  refine ga_il0 C eJ3_checkIndex_8e157_16 ?_
  exact ga_iret C T eJ3_checkIndex_8e157_17
theorem t_chk {K : gaK} {M : gaM} {v0 v1 : Int} (h0 : ok v0) (h1 : ok v1) (h : 0 ≤ v0 ∧ v0 < v1) : ga_Met yJ15_checkIndex_7cf53 cJ15_checkIndex_7cf53 2 (some .int) 1 K M [.inl v0, .inl v1] (some (.inl v0)) M := by
  refine ga_met (by decide) rfl (Nat.le_of_ble_eq_true rfl) ?_
  intro X C hK T
  show ga_W X M 0 [some (.inl v0), some (.inl v1)] []
  refine ga_il0 C eJ15_checkIndex_7cf53_0 ?_
  refine ga_il1 C eJ15_checkIndex_7cf53_1 ?_
  refine ga_null C eJ15_checkIndex_7cf53_2 ?_
  refine ga_cS3 C hK eJ15_checkIndex_7cf53_3 nchk3 mJ3_checkIndex_8e157 sJ3_checkIndex_8e157 (t_chk3 h0 h1 h) (by decide) (Nat.le_of_ble_eq_true rfl) ?_
  exact ga_iret C T eJ15_checkIndex_7cf53_6
theorem t_elem {n e cp : Nat} (hg : gh n e cp) {M : gaM} {v1 : Int} (h : ix v1 n) : ga_Met yJx4a65c_elementData_915e3 cJx4a65c_elementData_915e3 2 (some (.object "java/lang/Object")) 0 (gk n e cp) M [.inr (some 2), .inl v1] (some (.inr (some (200 + v1.toNat)))) M := by
  refine ga_met (by decide) rfl (Nat.le_of_ble_eq_true rfl) ?_
  intro X C hK T
  show ga_W X M 0 [some (.inr (some 2)), some (.inl v1)] []
  refine ga_al0 C eJx4a65c_elementData_915e3_0 ?_
  refine ga_getR C hK eJx4a65c_elementData_915e3_1 lelem rfl rfl ?_
  refine ga_il1 C eJx4a65c_elementData_915e3_4 ?_
  obtain ⟨h1, h2⟩ := h
  refine ga_aald C hK eJx4a65c_elementData_915e3_5 (gk_e hg (by have := hg.2.1; omega)) (Or.inr rfl) (by have := hg.2.2.1; omega) ⟨h1, by have := hg.2.1; omega⟩ ?_
  rw [if_pos (by omega)]
  exact ga_aret C T (Or.inl ⟨_, rfl⟩) eJx4a65c_elementData_915e3_6
theorem t_get {n e cp : Nat} (hg : gh n e cp) {M : gaM} {v1 : Int} {r : Nat} (hf : f_get n M v1 = some r) : ga_Met yJx4a65c_get_915e3 cJx4a65c_get_915e3 2 (some (.object "java/lang/Object")) 2 (gk n e cp) M [.inr (some 2), .inl v1] (some (.inr (some r))) M := by
  obtain ⟨⟨h, hs⟩, hf⟩ := gg_some hf
  cases hf
  refine ga_met (by decide) rfl (Nat.le_of_ble_eq_true rfl) ?_
  intro X C hK T
  show ga_W X M 0 [some (.inr (some 2)), some (.inl v1)] []
  refine ga_il1 C eJx4a65c_get_915e3_0 ?_
  refine ga_al0 C eJx4a65c_get_915e3_1 ?_
  refine ga_getI C hK eJx4a65c_get_915e3_2 lRJx4a65c_48 rfl rfl ?_
  have hn := hg.1
  have h1 := h.1
  have h2 := h.2
  refine ga_cS2 C hK eJx4a65c_get_915e3_5 nchk mJ15_checkIndex_7cf53 sJ15_checkIndex_7cf53 (t_chk ⟨by omega, by omega⟩ ⟨by rw [hs]; omega, by rw [hs]; omega⟩ ⟨by omega, by rw [hs]; omega⟩) (by decide) (Nat.le_of_ble_eq_true rfl) ?_
  refine ga_pop C eJx4a65c_get_915e3_8 ?_
  refine ga_al0 C eJx4a65c_get_915e3_9 ?_
  refine ga_il1 C eJx4a65c_get_915e3_10 ?_
  refine ga_cV1 C hK eJx4a65c_get_915e3_11 nelem mJx4a65c_elementData_915e3 vJx4a65c_elementData_915e3 rfl (t_elem hg h) (by decide) (Nat.le_of_ble_eq_true rfl) ?_
  exact ga_aret C T (Or.inl ⟨_, rfl⟩) eJx4a65c_get_915e3_14
theorem ga_max {X : gaX} {cc : ByteArray} {own : String} {dp : Nat} {M : gaM} {pc pc' idx : Nat} {lv : List (Option gaV)} {st : List gaV} {x y : Int} (C : ga_C X cc own dp) (d : gd cc pc (.invokestatic idx) 3 pc') (hl : Cond.methodLink own idx Lib.Math.max.name ∈ gaTb) (hd : 0 < dp) (hox : ok x) (hoy : ok y) (hw : st.length ≤ 8) (k : ga_W X M pc' lv (.inl (max x y) :: st)) : ga_W X M pc lv (.inl y :: .inl x :: st) := by
  obtain ⟨p, l, e, R, s, m, args, below, meth, c, D, E, A, nL, cells, slots, Q, ad, K⟩ := X
  obtain ⟨hx, hb, hml, hown, hts, hKK, hlk, hA, hf1, hf2, hf3, hf4⟩ := C
  obtain ⟨d, rfl⟩ := d
  intro H locs ls hR hS hL
  have k' := k H locs ls hR hS hL
  have e1 : Int32.ofInt (max x y) = if Int32.ofInt x < Int32.ofInt y then Int32.ofInt y else Int32.ofInt x := by
    by_cases h : x < y
    · rw [if_pos ((ok_lt hox hoy).mpr h), Int.max_eq_right (by omega)]
    · rw [if_neg (fun q => h ((ok_lt hox hoy).mp q)), Int.max_eq_left (by omega)]
  simp only [List.map_cons, ga_cv, e1] at k' ⊢
  exact va_mmax hx hb (by rw [hml]; exact hL.1.symm) hown (hts _ hl) (hts _ w_max_s) (hts _ w_max_i) (hts _ w_max_c) (by omega) (by have := ga_lenI (ad := ad) hw; omega) hf3 hf4 d k'
theorem ga_min {X : gaX} {cc : ByteArray} {own : String} {dp : Nat} {M : gaM} {pc pc' idx : Nat} {lv : List (Option gaV)} {st : List gaV} {x y : Int} (C : ga_C X cc own dp) (d : gd cc pc (.invokestatic idx) 3 pc') (hl : Cond.methodLink own idx Lib.Math.min.name ∈ gaTb) (hd : 0 < dp) (hox : ok x) (hoy : ok y) (hw : st.length ≤ 8) (k : ga_W X M pc' lv (.inl (min x y) :: st)) : ga_W X M pc lv (.inl y :: .inl x :: st) := by
  obtain ⟨p, l, e, R, s, m, args, below, meth, c, D, E, A, nL, cells, slots, Q, ad, K⟩ := X
  obtain ⟨hx, hb, hml, hown, hts, hKK, hlk, hA, hf1, hf2, hf3, hf4⟩ := C
  obtain ⟨d, rfl⟩ := d
  intro H locs ls hR hS hL
  have k' := k H locs ls hR hS hL
  have e1 : Int32.ofInt (min x y) = if Int32.ofInt y < Int32.ofInt x then Int32.ofInt y else Int32.ofInt x := by
    by_cases h : y < x
    · rw [if_pos ((ok_lt hoy hox).mpr h), Int.min_eq_right (by omega)]
    · rw [if_neg (fun q => h ((ok_lt hoy hox).mp q)), Int.min_eq_left (by omega)]
  simp only [List.map_cons, ga_cv, e1] at k' ⊢
  exact va_mmin hx hb (by rw [hml]; exact hL.1.symm) hown (hts _ hl) (hts _ w_min_s) (hts _ w_max_i) (hts _ w_min_c) (by omega) (by have := ga_lenI (ad := ad) hw; omega) hf3 hf4 d k'


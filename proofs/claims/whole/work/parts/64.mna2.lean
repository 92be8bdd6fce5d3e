/-! ===== the machine: multianewarray ===== -/
theorem outerV {cA : ClassId} {N h0 : Nat} : ∀ i, Jvm.Free.Multi.outerC cA N h0 i = arrV cA N (fun j => if j < i then .ref (h0 + 1 + j) else .null)
  | 0 => by
    show ({ cls := cA, slots := Array.replicate N .null, vm := .none } : Cell) = _
    rw [arrV_new]
    exact arrV_ext (fun j _ => (if_neg (by omega)).symm)
  | i + 1 => by
    show (Jvm.Free.Multi.outerC cA N h0 i).setSlot i (.ref (h0 + 1 + i)) = _
    rw [outerV i, arrV_store]
    refine arrV_ext (fun j _ => ?_)
    unfold updV
    by_cases e : j = i
    · rw [if_pos e, if_pos (by omega), e]
    · rw [if_neg e]
      show (if j < i then Value.ref (h0 + 1 + j) else Value.null) = _
      by_cases e2 : j < i
      · rw [if_pos e2, if_pos (by omega)]
      · rw [if_neg e2, if_neg (by omega)]
section MN
variable {T : gaX → gaK → Nat → Nat → Prop} {X : gaX} {cc : ByteArray} {own nm : String} {dp c d : Nat} {K : gaK} {M : gaM} {pc pc' : Nat} {lv : List (Option gaV)} {st : List gaV}
theorem z_mna {idx id N m : Nat} {x y : Int} (Z : ga_Z T X cc own dp nm (c + (1 + N)) (d + (N + N * m)) K) (dd : gd cc pc (.multianewarray idx 2) 4 pc') (hx1 : x = (N : Int)) (hy1 : y = (m : Int)) (hN : N ≤ 1000) (hm : m ≤ 10000) (hcl : Cond.classLink own idx ("[" ++ (FieldType.array .int).toString) ∈ gaTb) (harr : Cond.arrayClass .int ∈ gaTb) (hf : ∀ x, id ≤ x → x ≤ id + N → frh K x) (hv : ∀ x, id ≤ x → x ≤ id + N → frv x lv st)
    (kk : ∀ X', ga_Z T X' cc own dp nm c d (Kmn K id N m) → ga_W X' (Mmn M id N) pc' lv (.inr (some id) :: st)) : ga_W X M pc lv (.inl y :: .inl x :: st) := by
  obtain ⟨p, l, e, R, s, mm, args, below, meth, c0, D, E, A, nL, cells, slots, Q, ad, K'⟩ := X
  have hK : K' = K := Z.2.1
  subst hK
  have Z0 := Z
  obtain ⟨⟨⟨hx, hb, hml, hown, hts, hKK, hlk, hA, hf1, hf2, hf3, hf4⟩, hnew, hr1, hr2, hAA, hSF⟩, -⟩ := Z0
  obtain ⟨dd, rfl⟩ := dd
  subst hx1
  subst hy1
  obtain ⟨n1, n2⟩ := nat32 (N := N) (by omega)
  obtain ⟨k1, k2⟩ := nat32 (N := m) (by omega)
  intro H locs ls hR hS hL
  have hE0 : s.vm.findClass ("[" ++ (FieldType.int).toString) = some (E 0) := (hKK.2 0 (E 0, .int) rfl).2
  have hE2 : s.vm.findClass ("[" ++ (FieldType.array .int).toString) = some (E 2) := (hKK.2 2 (E 2, .array .int) rfl).2
  intro T0 hT XX
  obtain ⟨vm₁, cA, comp, -, fA, fC, -, -, X', step⟩ := XX.multianewarray2F hx hown (hts _ hcl) (show (Cond.arrayOver (.array .int)).before args s = true from hSF.1) (hts _ harr) (g := F0 mm pc ls (.int (Int32.ofInt (m : Int)) :: .int (Int32.ofInt (N : Int)) :: st.map (ga_cv ad))) rfl (by rw [hb]; exact dd) rfl n1 k1 (by rw [n2]; omega) (by rw [k2]; show m * 4 ≤ _; omega) (by rw [k2]; omega) rfl rfl (by rw [n2]; omega) (by rw [n2, k2]; omega)
  rw [n2, k2] at X' step
  have eA : cA = E 2 := Option.some.inj (fA.symm.trans hE2)
  have eC : comp = E 0 := Option.some.inj (fC.symm.trans hE0)
  subst eA
  subst eC
  have hTh : (T0.setVm vm₁).heap = H := hT
  obtain ⟨f1, f2, -, -⟩ := Jvm.Free.Multi.fill_facts (T0.setVm vm₁) (E 2) (E 0) N m (defaultValue .int) N
  have hold : ∀ q : Nat, q < H.size → (Jvm.Free.Multi.fill (T0.setVm vm₁) (E 2) (E 0) N m (defaultValue .int) N).heap[q]? = H[q]? := fun q hq => by
    have := Jvm.Free.Multi.fill_old (T0.setVm vm₁) (E 2) (E 0) N m (defaultValue .int) (a := q) (by rw [hTh]; exact hq) N
    rw [hTh] at this
    exact this
  have hrow : ∀ j : Nat, j < N → (Jvm.Free.Multi.fill (T0.setVm vm₁) (E 2) (E 0) N m (defaultValue .int) N).heap[H.size + 1 + j]? = some (arrV (E 0) m (fun _ => .int 0)) := fun j hj => by
    have := Jvm.Free.Multi.fill_inner (T0.setVm vm₁) (E 2) (E 0) N m (defaultValue .int) N j hj
    rw [hTh] at this
    rw [this, ← arrV_new]
    rfl
  rw [hTh, outerV] at f2
  have f2' : (Jvm.Free.Multi.fill (T0.setVm vm₁) (E 2) (E 0) N m (defaultValue .int) N).heap[H.size]? = some (arrV (E 2) N (fun j => .ref (H.size + 1 + j))) := by
    rw [f2]
    congr 1
    exact arrV_ext (fun j hj => if_pos hj)
  rw [hTh] at f1
  generalize Jvm.Free.Multi.fill (T0.setVm vm₁) (E 2) (E 0) N m (defaultValue .int) N = F at X' step f1 hold hrow f2'
  have hR1 := hR.mna (m := m) hf hold f2' hrow
  rw [Nat.add_assoc cells 1 N, Nat.add_assoc slots N (N * m)] at X'
  have hA1 : ∀ (i : Nat) (sj : gaS), Kmn K' id N m i = some sj → (K' i = some sj → A (ad i)) → A (adm ad id N H.size i) := fun i sj h1 h2 => by
    by_cases ci : id ≤ i ∧ i ≤ id + N
    · rw [adm_in ci]
      exact hnew _ (Nat.le_trans hS.1 (by omega))
    · rw [Kmn_out ci] at h1
      rw [adm_out ci]
      exact h2 h1
  have hw := kk _ (Z.jp (mc := 1 + N) (ms := N + N * m) (ad1 := adm ad id N H.size) (K1 := Kmn K' id N m) (adm_dom hf) Kmn_dom ⟨⟨hx, hb, hml, hown, hts, hKK, hlk, fun i sk h1 h2 => hA1 i sk h1 (fun q => hA i sk q h2), hf1, hf2, by omega, by omega⟩, hnew, by omega, by omega, fun i sk h1 h2 => hA1 i sk h1 (fun q => hAA i sk q h2), hSF.ad (fun i hi => adm_dom (ad := ad) (a := H.size) hf i (.inr hi))⟩) F.heap locs ls hR1 ⟨Nat.le_trans hS.1 (by omega), fun q h1 h2 => (hold q (Nat.lt_of_lt_of_le h1 hS.1)).trans (hS.2.1 q h1 h2), hS.2.2⟩ ⟨hL.1, hL.2.1, hL.2.2.1, fun i v hvv => by
      rw [cv_adm (fun x q1 q2 => (hv x q1 q2).1 v (List.mem_of_getElem? hvv))]
      exact hL.2.2.2 i v hvv⟩
  have e3 : st.map (ga_cv (adm ad id N H.size)) = st.map (ga_cv ad) := List.map_congr_left (fun v hvv => cv_adm (fun x q1 q2 => (hv x q1 q2).2 v hvv))
  have e2 : ga_cv (adm ad id N H.size) (.inr (some id)) = .ref H.size := by
    show va_rf (some (adm ad id N H.size id)) = _
    rw [adm_in ⟨Nat.le_refl id, by omega⟩, Nat.sub_self]
    rfl
  rw [List.map_cons, e3, e2] at hw
  obtain ⟨t2, a1, b1⟩ := hw F rfl X'
  refine ⟨t2, step t2 ?_, b1⟩
  rw [hT]
  exact a1
end MN

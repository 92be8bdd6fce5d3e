/-! ===== the machine: class objects, arraycopy, shifts ===== -/
theorem nn {K : gaK} {i : Nat} {sk : gaS} (h : K i = some sk) : K i ≠ none := by rw [h]; exact fun q => by cases q
theorem okl_fr {K : gaK} {x : Nat} {lv : List (Option gaV)} {st : List gaV} (h1 : okl K lv) (h2 : okl K (st.map some)) (hf : frh K x) : frv x lv st := by
  refine ⟨fun v hv e => ?_, fun v hv e => ?_⟩
  · rcases okl_in h1 v hv x e with h | h
    · exact h hf.1
    · exact hf.2.2 h
  · rcases okl_in h2 v (List.mem_map_of_mem hv) x e with h | h
    · exact h hf.1
    · exact hf.2.2 h
section LI
variable {T : gaX → gaK → Nat → Nat → Prop} {X : gaX} {cc : ByteArray} {own nm : String} {dp c d : Nat} {K : gaK} {M : gaM} {pc pc' tgt : Nat} {lv : List (Option gaV)} {st : List gaV}
theorem ga_ishr1 {x : Int} (C : ga_C X cc own dp) (dd : gd cc pc .ishr 1 pc') (hx0 : 0 ≤ x ∧ x ≤ 1000000) (k : ga_W X M pc' lv (.inl (x / 2) :: st)) : ga_W X M pc lv (.inl 1 :: .inl x :: st) := by
  obtain ⟨p, l, e, R, s, m, args, below, meth, c, D, E, A, nL, cells, slots, Q, ad, K⟩ := X
  obtain ⟨hx, hb, hml, hown, hts, hKK, hlk, hA, hf1, hf2, hf3, hf4⟩ := C
  obtain ⟨dd, rfl⟩ := dd
  intro H locs ls hR hS hL
  have k' := k H locs ls hR hS hL
  have e1 : Int32.ofInt x >>> (Int32.ofInt 1 &&& 31) = Int32.ofInt (x / 2) := by
    have q := pk_shrN (n := x.toNat) (by omega) (Int32.ofInt 1 &&& 31) 1 (by decide)
    rw [ga_nat (show 0 ≤ x by omega), ga_nat (show 0 ≤ x / 2 by omega), q, Nat.pow_one]
    congr 1
    omega
  refine lv_ishr hx hb dd ?_
  rw [e1]
  exact k'
theorem ga_acmp_eqS {r : Nat} (C : ga_C X cc own dp) (dd : gd_b cc pc (.if_acmp .eq) tgt pc') (k : ga_W X M tgt lv st) : ga_W X M pc lv (.inr (some r) :: .inr (some r) :: st) := by
  obtain ⟨p, l, e, R, s, m, args, below, meth, c, D, E, A, nL, cells, slots, Q, ad, K⟩ := X
  obtain ⟨hx, hb, hml, hown, hts, hKK, hlk, hA, hf1, hf2, hf3, hf4⟩ := C
  obtain ⟨off, dd, ht, rfl⟩ := dd
  intro H locs ls hR hS hL
  exact lv_acmp_eq (rx := some (ad r)) (ry := some (ad r)) hx hb dd ht (fun _ => k H locs ls hR hS hL) (fun q => absurd rfl q)
theorem ga_acmp_neS {r : Nat} (C : ga_C X cc own dp) (dd : gd_b cc pc (.if_acmp .ne) tgt pc') (k : ga_W X M pc' lv st) : ga_W X M pc lv (.inr (some r) :: .inr (some r) :: st) := by
  obtain ⟨p, l, e, R, s, m, args, below, meth, c, D, E, A, nL, cells, slots, Q, ad, K⟩ := X
  obtain ⟨hx, hb, hml, hown, hts, hKK, hlk, hA, hf1, hf2, hf3, hf4⟩ := C
  obtain ⟨off, dd, ht, rfl⟩ := dd
  intro H locs ls hR hS hL
  exact lv_acmp_ne (rx := some (ad r)) (ry := some (ad r)) hx hb dd ht (fun q => absurd rfl q) (fun _ => k H locs ls hR hS hL)
/-- the length of a list's array, the JDK's empty one too -/
theorem z_alenL {id n : Nat} (Z : ga_Z T X cc own dp nm c d K) (dd : gd cc pc .arraylength 1 pc') (hk : (∃ g, K id = some (.inr (.inr (3, n, g)))) ∨ (id = 99 ∧ n = 0)) (kk : ga_W X M pc' lv (.inl (n : Int) :: st)) : ga_W X M pc lv (.inr (some id) :: st) := by
  rcases hk with ⟨g, hk⟩ | ⟨rfl, rfl⟩
  · exact ga_alen Z.C Z.K dd (.inr ⟨3, g, hk, .inr rfl⟩) kk
  obtain ⟨p, l, e, R, s, m, args, below, meth, c0, D, E, A, nL, cells, slots, Q, ad, K'⟩ := X
  obtain ⟨⟨⟨hx, hb, hml, hown, hts, hKK, hlk, hA, hf1, hf2, hf3, hf4⟩, hnew, hr1, hr2, hAA, hSF⟩, hK, hnm, -⟩ := Z
  obtain ⟨dd, rfl⟩ := dd
  obtain ⟨-, -, -, -, -, -, cell, t1, t2, t3, t4, t5, t6, t7⟩ := hSF
  intro H locs ls hR hS hL
  have k' := kk H locs ls hR hS hL
  exact W.alen (n := Int32.ofNat 0) hx hb (by rw [hS.2.1 _ (Array.getElem?_eq_some_iff.mp t1).1 t7]; exact t1) t2 t5 rfl rfl dd k'
theorem z_ldcM {idx : Nat} (Z : ga_Z T X cc own dp nm c d K) (dd : gd cc pc (.ldc idx) 2 pc') (hl : Cond.classLink own idx "[Ljava/lang/Object;" ∈ gaTb) (kk : ga_W X M pc' lv (.inr (some 97) :: st)) : ga_W X M pc lv st := by
  obtain ⟨p, l, e, R, s, m, args, below, meth, c0, D, E, A, nL, cells, slots, Q, ad, K'⟩ := X
  obtain ⟨⟨⟨hx, hb, hml, hown, hts, hKK, hlk, hA, hf1, hf2, hf3, hf4⟩, hnew, hr1, hr2, hAA, hSF⟩, hK, hnm, -⟩ := Z
  obtain ⟨dd, rfl⟩ := dd
  intro H locs ls hR hS hL
  exact va_ldcM hx hb hown (hts _ hl) hSF.2.2.1 dd (kk H locs ls hR hS hL)
theorem z_getC {idx id N : Nat} {g : Nat → Option Nat} (Z : ga_Z T X cc own dp nm c d K) (dd : gd cc pc (.invokevirtual idx) 3 pc') (hl : Cond.methodLink own idx ⟨"java/lang/Object", "getClass", "()Ljava/lang/Class;"⟩ ∈ gaTb) (hk : K id = some (.inr (.inr (3, N, g)))) (h1 : 1 ≤ dp) (hst : st.length ≤ 8) (kk : ga_W X M pc' lv (.inr (some 97) :: st)) : ga_W X M pc lv (.inr (some id) :: st) := by
  obtain ⟨p, l, e, R, s, m, args, below, meth, c0, D, E, A, nL, cells, slots, Q, ad, K'⟩ := X
  have hK : K' = K := Z.2.1
  subst hK
  obtain ⟨⟨⟨hx, hb, hml, hown, hts, hKK, hlk, hA, hf1, hf2, hf3, hf4⟩, hnew, hr1, hr2, hAA, hSF⟩, -⟩ := Z
  obtain ⟨dd, rfl⟩ := dd
  intro H locs ls hR hS hL
  have := ga_lenI (ad := ad) hst
  have hE := va_nmO (hKK.2 3 (E 3, .object "java/lang/Object") rfl).2 rfl
  exact va_getC (C := "[Ljava/lang/Object;") hx hb (by rw [hml]; exact hL.1.symm) hown (hts _ hl) (va_Dc.use hSF.2.2.2.1) (hts _ gc_s) (hts _ gc_i) (hts _ gc_n) hSF.2.2.1 ⟨_, hR.1 id _ hk, rfl, hE⟩ (by omega) (by omega) dd (kk H locs ls hR hS hL)
set_option maxHeartbeats 4000000 in
/-- arraycopy of the first n JOBS of a list's array into a new one -/
theorem z_copy {idx e0 e1 n N : Nat} {g0 g1 : Nat → Option Nat} (Z : ga_Z T X cc own dp nm c d K) (dd : gd cc pc (.invokestatic idx) 3 pc') (hl : Cond.methodLink own idx arraycopyName ∈ gaTb) (hk0 : K e0 = some (.inr (.inr (3, n, g0)))) (hk1 : K e1 = some (.inr (.inr (3, N, g1)))) (h99 : e1 ≠ 99) (hn : n ≤ N) (hN : N ≤ 100000) (hel : ∀ j, j < n → ∀ w, g0 j = some w → ∃ rf, K w = some (.inr (.inl (4, rf)))) (h1 : 1 ≤ dp)
    (kk : ∀ X', ga_Z T X' cc own dp nm c d (Kup K e1 (.inr (.inr (3, N, fun j => if j < n then g0 j else g1 j)))) → ga_W X' M pc' lv []) : ga_W X M pc lv [.inl (n : Int), .inl 0, .inr (some e1), .inl 0, .inr (some e0)] := by
  obtain ⟨p, l, e, R, s, m, args, below, meth, c0, D, E, A, nL, cells, slots, Q, ad, K'⟩ := X
  have hK : K' = K := Z.2.1
  subst hK
  have Z0 := Z
  obtain ⟨⟨⟨hx, hb, hml, hown, hts, hKK, hlk, hA, hf1, hf2, hf3, hf4⟩, hnew, hr1, hr2, hAA, hSF⟩, -⟩ := Z0
  obtain ⟨dd, rfl⟩ := dd
  obtain ⟨m1, m2⟩ := nat32 (N := n) (by omega)
  have z0 : (Int32.ofInt 0).toNatClampNeg = 0 := by decide
  have zn : ¬ Int32.ofInt 0 < 0 := by decide
  intro H locs ls hR hS hL
  have hc0 : H[ad e0]? = some (arrV (E 3) n (ga_G ad M e0 3 g0)) := hR.1 e0 _ hk0
  have hc1 : H[ad e1]? = some (arrV (E 3) N (ga_G ad M e1 3 g1)) := hR.1 e1 _ hk1
  obtain ⟨-, k0, hkk, cm0, hkk0⟩ := (hKK.2 3 (E 3, .object "java/lang/Object") rfl).1 n (ga_G ad M e0 3 g0)
  have hg0 : ga_G ad M e0 3 g0 = fun j => va_rf ((g0 j).map ad) := by
    funext j
    unfold ga_G
    rw [if_neg (by decide)]
  have hg1 : ga_G ad M e1 3 g1 = fun j => va_rf ((g1 j).map ad) := by
    funext j
    unfold ga_G
    rw [if_neg (by decide)]
  have nI0 : (Int32.ofInt (n : Int)).toInt = (n : Int) := Int32.toInt_ofInt_of_le (by omega) (by omega)
  have zI0 : (Int32.ofInt 0).toInt = 0 := by decide
  intro T0 hT XX
  obtain ⟨vm', X', step⟩ := XX.arraycopy hx hown (hts _ hl) (hts _ ac_n) (hts _ ac_s) (hts _ ac_i) (src := ad e0) (dst := ad e1) (cs := arrV (E 3) n (ga_G ad M e0 3 g0)) (cd := arrV (E 3) N (ga_G ad M e1 3 g1)) (srcPos := Int32.ofInt 0) (destPos := Int32.ofInt 0) (n := Int32.ofInt (n : Int)) (by rw [hT]; exact hc0) (by rw [hT]; exact hc1)
    (fun _ h => by cases h) (fun _ h => by cases h) (fun h => by cases h) (fun h => by cases h) hkk hkk hkk0 hkk0 rfl zn zn m1
    (by rw [zI0, nI0, arrV_size]; omega)
    (by rw [zI0, nI0, arrV_size]; omega)
    (fun vm₁ hal i hi => by
      rw [m2] at hi
      have e : (arrV (E 3) n (ga_G ad M e0 3 g0)).slots.getD ((Int32.ofInt 0).toNatClampNeg + i) .null = va_rf ((g0 i).map ad) := by
        rw [z0, Nat.zero_add, Array.getD_eq_getD_getElem?, arrV_read _ _ hi, hg0]
        rfl
      rw [e]
      cases hy : g0 i with
      | none => exact ⟨rfl, trivial⟩
      | some w =>
        obtain ⟨rf, hkw⟩ := hel i hi w hy
        obtain ⟨q', hq', cellV, v1, v2, v3, -⟩ := hR.1 w _ hkw
        cases hq'
        have hcls := (hKK.1 4 _ rfl).2
        obtain ⟨kA, comp, r1, r2, r3, -⟩ := (hKK.2 3 (E 3, .object "java/lang/Object") rfl).2
        cases hkk.symm.trans r1
        cases hkk0.symm.trans r2
        obtain ⟨kC, hkC, -⟩ := Vm.findClass_spec hcls.1
        obtain ⟨kE, hkE, -⟩ := Vm.findClass_spec r3
        obtain ⟨kC', hkC', -⟩ := hal.2.2 _ _ hkC
        obtain ⟨kE', hkE', -⟩ := hal.2.2 _ _ hkE
        obtain ⟨c0', t1, f1, f2, f3⟩ := Cond.castable_spec (va_Nw.use (A := args) rfl hSF.2.2.2.2.1)
        cases hcls.1.symm.trans f1
        cases r3.symm.trans f2
        refine ⟨rfl, cellV, (show T0.heap[ad w]? = some cellV by rw [hT]; exact v1), (fun q h => by rw [v3] at h; cases h), ⟨kC', by rw [v2]; exact hkC'⟩, ?_, ?_⟩
        · exact ⟨kE', hkE'⟩
        · show vm₁.assignable _ _ = true
          rw [hal.assignable, v2]
          exact f3)
    (g := F0 m pc ls (.int (Int32.ofInt (n : Int)) :: .int (Int32.ofInt 0) :: .ref (ad e1) :: .int (Int32.ofInt 0) :: .ref (ad e0) :: [])) rfl (by rw [hml]; exact hL.1) (rest := []) rfl (by rw [hb]; exact dd) (by omega) (by
      have hw : nativeFrameWords "java/lang/System" "arraycopy" 5 = 7 := by decide
      show 2 * 0 + 0 + _ ≤ _
      omega)
  have e1c : copied (arrV (E 3) n (ga_G ad M e0 3 g0)) (arrV (E 3) N (ga_G ad M e1 3 g1)) (Int32.ofInt 0) (Int32.ofInt 0) (Int32.ofInt (n : Int)) = arrV (E 3) N (ga_G ad M e1 3 (fun j => if j < n then g0 j else g1 j)) := by
    have q := va_copied (sp := 0) (dp := 0) (n := n) (n1 := N) (fun z => va_rf z) (E 3) (E 3) (fun j => (g0 j).map ad) (fun j => (g1 j).map ad) (n0 := n) (by omega)
    unfold copied
    rw [hg0, hg1, z0, m2]
    refine q.trans ?_
    refine arrV_ext (fun j hj => ?_)
    unfold ga_G va_cpy
    have h31 : ¬ (3 : Nat) = 1 := by decide
    rw [if_neg h31]
    by_cases ej : j < n
    · rw [if_pos (by omega)]
      simp [ej]
    · rw [if_neg (by omega)]
      simp [ej]
  rw [e1c] at X' step
  generalize hcell : arrV (E 3) N (ga_G ad M e1 3 (fun j => if j < n then g0 j else g1 j)) = nc at X' step
  have hlt : ad e1 < H.size := (Array.getElem?_eq_some_iff.mp hc1).1
  have hheap : ((T0.setVm vm').setCell (ad e1) nc).heap = H.setIfInBounds (ad e1) nc := by rw [← hT]; rfl
  have oq : ∀ q : Nat, q ≠ ad e1 → (H.setIfInBounds (ad e1) nc)[q]? = H[q]? := fun q hq => by simp [Array.getElem?_setIfInBounds, Ne.symm hq]
  obtain ⟨t, a1, b1⟩ := ga_chg (st := []) (ls := ls) (pc' := pc + 3) Z hk1 (.inr h99) hR (H1 := H.setIfInBounds (ad e1) nc) ⟨by simp; exact hS.1, fun q g1 g2 => by
      rw [oq q (fun e => g2 (by rw [e]; exact hAA e1 _ hk1 (.inr h99)))]
      exact hS.2.1 q g1 g2, fun q hq => by
      rcases List.mem_append.mp hq with h | h
      · exact hS.2.2 q h
      · obtain ⟨z, -, hz⟩ := List.mem_map.mp h
        rw [← hz]
        exact hAA e1 _ hk1 (.inr h99)⟩ hL oq (by
        show (H.setIfInBounds (ad e1) nc)[ad e1]? = some (arrV (E 3) N (ga_G ad M e1 3 (fun j => if j < n then g0 j else g1 j)))
        rw [hcell]
        simp [Array.getElem?_setIfInBounds, hlt]) kk _ hheap X'
  exact ⟨t, step t a1, b1⟩
end LI

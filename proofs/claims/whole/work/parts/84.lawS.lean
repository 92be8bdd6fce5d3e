/-! ===== the law, from its entry ===== -/
theorem arr_K {s : State} {cA : ClassId} {ty : FieldType} {kA : Class} {comp : ClassId} (h1 : s.vm.classes[cA]? = some kA) (h2 : kA.kind = .array comp ty) : ArrOfT s cA ty := fun _ _ => ⟨fun k h => (by cases h), kA, h1, comp, h2⟩
set_option maxHeartbeats 4000000 in
set_option maxRecDepth 100000 in
theorem whole_start {p : Program} {e : Env} {s : State} {m : MethodId} {below : List Frame} {meth : Method} {c : Code} (l : Launch) {b L : Nat} {xs : Nat → Int32} (hL : L ≤ 3584) (C0 : lw_At p s m meth c b L xs) : W p l e room_1 s m #[Value.ref b] below meth c s.heap [] 0 0 (lw_Z below #[Value.ref b] s) (entryFrame m ([Value.ref b] : List Value).toArray 4) := by
  obtain ⟨hx, hb, hr, hml, hown, hts, hX, hbl, hlocks, hgv⟩ := C0
  have hg : ∀ w ∈ gaTb, w.before #[Value.ref b] s = true := fun w h => hts w (List.mem_filter.mp h).1
  have hs := flat_of_before _ hgv
  obtain ⟨c0, i0, k0⟩ := u_known hg (gaT_in 0 _ rfl) (hg _ ciRX0)
  obtain ⟨c1, i1, k1⟩ := u_known hg (gaT_in 1 _ rfl) (hg _ ciRX1)
  obtain ⟨c2, i2, k2⟩ := u_known hg (gaT_in 2 _ rfl) (hg _ ciRX2)
  obtain ⟨c3, i3, k3⟩ := u_known hg (gaT_in 3 _ rfl) (hg _ ciRX3)
  obtain ⟨c4, i4, k4⟩ := u_known hg (gaT_in 4 _ rfl) (hg _ ciRX4)
  obtain ⟨c5, i5, k5⟩ := u_known hg (gaT_in 5 _ rfl) (hg _ ciRX5)
  obtain ⟨c6, i6, k6⟩ := u_known hg (gaT_in 6 _ rfl) (hg _ ciRX6)
  obtain ⟨c7, i7, k7⟩ := u_known hg (gaT_in 7 _ rfl) (hg _ ciRJx4a65c)
  obtain ⟨D, hKc⟩ : ∃ D : va_G, ∀ (ci : Nat) (q : vw_C), gaT[ci]? = some q → u_Kn s q.1 q.2.1 q.2.2 (D.1 ci) (D.2 ci) := by
    refine ⟨(fun k => match k with | 0 => c0 | 1 => c1 | 2 => c2 | 3 => c3 | 4 => c4 | 5 => c5 | 6 => c6 | _ => c7, fun k => match k with | 0 => i0 | 1 => i1 | 2 => i2 | 3 => i3 | 4 => i4 | 5 => i5 | 6 => i6 | _ => i7), ?_⟩
    intro ci q hq
    match ci, hq with
    | 0, hq => cases hq; exact k0
    | 1, hq => cases hq; exact k1
    | 2, hq => cases hq; exact k2
    | 3, hq => cases hq; exact k3
    | 4, hq => cases hq; exact k4
    | 5, hq => cases hq; exact k5
    | 6, hq => cases hq; exact k6
    | 7, hq => cases hq; exact k7
    | n + 8, hq => simp [gaT] at hq
  have wI : (Cond.arrayOver (.array .int)).before #[Value.ref b] s = true := hts _ (by decide +kernel)
  have wO : (Cond.arrayOver (.object "java/lang/Object")).before #[Value.ref b] s = true := hts _ (by decide +kernel)
  have wD : (Cond.declares ⟨"java/lang/Object", "getClass", "()Ljava/lang/Class;"⟩).before #[Value.ref b] s = true := hts _ (by decide +kernel)
  have wC : (Cond.castable RX4 "java/lang/Object").before #[Value.ref b] s = true := hts _ (by decide +kernel)
  have wZ : (Cond.laysStatic RJx4a65c "DEFAULTCAPACITY_EMPTY_ELEMENTDATA" "[Ljava/lang/Object;").before #[Value.ref b] s = true := hts _ (by decide +kernel)
  obtain ⟨a0, ka0, cm0, n0, h0, t0⟩ := Cond.arrayClass_spec (hg _ ar_int)
  obtain ⟨a1, ka1, cm1, n1, h1, t1⟩ := Cond.arrayClass_spec (hg _ ar_boolean)
  obtain ⟨cm2, a2, ka2, -, -, h2, t2, n2⟩ := Jvm.Stand.arrayOver_specB wI
  obtain ⟨cm3, a3, ka3, o3, -, h3, t3, n3⟩ := Cond.arrayOver_spec wO
  obtain ⟨E, hE⟩ : ∃ E : Nat → ClassId, ∀ (k : Nat) (q : ClassId × FieldType), (gaA E)[k]? = some q → ArrOfT s q.1 q.2 ∧ va_RA s q.1 q.2 := by
    refine ⟨fun k => match k with | 0 => a0 | 1 => a1 | 2 => a2 | _ => a3, ?_⟩
    intro k q hq
    match k, hq with
    | 0, hq => cases hq; exact ⟨arr_K h0 t0, n0⟩
    | 1, hq => cases hq; exact ⟨arr_K h1 t1, n1⟩
    | 2, hq => cases hq; exact ⟨arr_K h2 t2, n2⟩
    | 3, hq => cases hq; exact ⟨arr_K h3 t3, ka3, cm3, h3, t3, o3, n3⟩
    | n + 4, hq => simp [gaA] at hq
  have hA : ∀ a : Nat, a < s.heap.size → ¬ (fun q => s.heap.size ≤ q) a := fun a ha => Nat.not_le.mpr ha
  have gM : (Cond.isRef (.mirror "[Ljava/lang/Object;")).before #[Value.ref b] s = true := hs _ (by decide +kernel)
  obtain ⟨mi, hmi⟩ := va_Mi.of gM
  have gA : (Cond.arrayOf (.static "java/util/ArrayList" "DEFAULTCAPACITY_EMPTY_ELEMENTDATA" "[Ljava/lang/Object;") (.object "java/lang/Object")).before #[Value.ref b] s = true := hs _ (by decide +kernel)
  have gL : (Cond.eq (.length (.static "java/util/ArrayList" "DEFAULTCAPACITY_EMPTY_ELEMENTDATA" "[Ljava/lang/Object;")) (.int 0)).before #[Value.ref b] s = true := hs _ (by decide +kernel)
  obtain ⟨t, ht, hT⟩ := va_Tof (N := 0) (f := fun _ => Value.null) (A := fun q => s.heap.size ≤ q) (by decide) gA (va_eqt gL) (fun j hj => absurd hj (Nat.not_lt_zero j)) hA
  have hZ : va_Z RJx4a65c "DEFAULTCAPACITY_EMPTY_ELEMENTDATA" "[Ljava/lang/Object;" (.ref t) (fun q => s.heap.size ≤ q) s s.heap := va_Zref wZ (hg _ niRJx4a65c) ht hA
  obtain ⟨ad, h97, h98, h99⟩ : ∃ ad : Nat → Nat, ad 97 = mi ∧ ad 98 = b ∧ ad 99 = t := ⟨fun x => if x = 97 then mi else if x = 98 then b else t, rfl, rfl, rfl⟩
  have hSF : ga_SF ad (fun q => s.heap.size ≤ q) s s.heap := ⟨wI, va_AO.of wO, by rw [h97]; exact hmi, va_Dc.of wD, va_Nw.of rfl wC, by rw [h99]; exact hZ, by rw [h99]; exact hT⟩
  have hl := lv_entry (([.inr (some 98)] : List gaV).map (ga_cv ad)) (n := 4) (Nat.le_of_ble_eq_true rfl)
  have e1 : ([Value.ref b] : List Value) = ([.inr (some 98)] : List gaV).map (ga_cv ad) := by
    show [Value.ref b] = [va_rf (some (ad 98))]
    rw [h98]
    rfl
  have hw := l_body (b := b) (L := L) (xs := xs) (nm := meth.name) (X := (p, l, e, room_1, s, m, #[Value.ref b], below, meth, c, D, E, fun q => s.heap.size ≤ q, 4, 0, 0, lw_Z below #[Value.ref b] s, ad, K00)) hL ⟨⟨⟨hx, hb, hml, hown, hg, ⟨hKc, hE⟩, hlocks, fun i sk q => (by cases q), by decide, by decide, by decide, by decide⟩, fun q hq => hq, by decide, by decide, fun i sk q => (by cases q), hSF⟩, rfl, rfl, ⟨rfl, rfl, hX, hbl, h98, rfl, rfl, hr, by decide, by decide⟩, lT_TS⟩ s.heap [] _ ⟨fun i sk q => (by cases q), fun i j q => absurd rfl q⟩ va_S.rf (ga_L.of (Nat.le_of_ble_eq_true rfl) hl)
  rw [← e1] at hw
  rw [lg_entry_eq]
  exact hw

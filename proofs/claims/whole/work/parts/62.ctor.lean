/-! ===== the machine: methods that make cells ===== -/
def ga_DA (ad : Nat → Nat) (K : gaK) (sz : Nat) : Nat → Prop := fun q => (∃ (id : Nat) (sk : gaS), K id = some sk ∧ ga_wA id sk ∧ q = ad id) ∨ sz ≤ q
def ga_QA (D : va_G) (E : Nat → ClassId) (ad : Nat → Nat) (K K1 : gaK) (r : Option gaV) (M1 : gaM) (sz : Nat) : Array Value → State → Outcome → State → Prop := fun _ st oc t => ∃ ad1 : Nat → Nat, (∀ id, K id ≠ none ∨ pin id → ad1 id = ad id) ∧ oc = .returned (r.map (ga_cv ad1)) ∧ ga_R D E ad1 K1 M1 t.heap ∧ va_K D gaT (gaA E) t ∧ (∀ (id : Nat) (sk : gaS), K1 id = some sk → ga_wA id sk → ga_DA ad K sz (ad1 id)) ∧ va_F (ga_DA ad K sz) st t
def ga_rmA (dp mc ms : Nat) : Room := { frames := dp, cells := mc, slots := ms, locals := 64 * dp }
/-- a contract with new cells: from K, M to K1, M1 -/
def ga_MetA (y : MethodName) (cc : ByteArray) (maxL : Nat) (ret : Option FieldType) (dp mc ms : Nat) (K : gaK) (M : gaM) (as : List gaV) (r : Option gaV) (K1 : gaK) (M1 : gaM) : Prop :=
  ∀ (l : Launch) (D : va_G) (E : Nat → ClassId) (ad : Nat → Nat) (sz : Nat), Met l y (.code y cc maxL ret :: gaTb) (ga_rmA dp mc ms) (va_Pc (as.map (ga_cv ad)) (fun U => U.heap.size = sz ∧ ga_R D E ad K M U.heap ∧ va_K D gaT (gaA E) U ∧ ga_SF ad (ga_DA ad K sz) U U.heap)) (ga_QA D E ad K K1 r M1 sz) mc ms (ga_DA ad K sz)
-- what the end of such a method needs: the first K and ad, the end's K and M
def ga_RtA (X : gaX) (ret : Option FieldType) (r : Option gaV) (K1 : gaK) (M1 : gaM) (K0 : gaK) (ad0 : Nat → Nat) (c d : Nat) : Prop := match X with
  | (p, l, e, R, s, m, args, below, meth, c0, D, E, A, nL, cells, slots, Q, ad, K) => meth.sig.returnType = ret ∧ A = ga_DA ad0 K0 s.heap.size ∧ Q = MQ below (ga_QA D E ad0 K0 K1 r M1 s.heap.size) args s (cells + c) (slots + d) A ∧ ∀ id, K0 id ≠ none ∨ pin id → ad id = ad0 id
def ga_T (ret : Option FieldType) (r : Option gaV) (K1 : gaK) (M1 : gaM) (K0 : gaK) (ad0 : Nat → Nat) : gaX → gaK → Nat → Nat → Prop := fun X K c d => ga_RtA X ret r K1 M1 K0 ad0 c d ∧ ∀ id, K0 id ≠ none → K id ≠ none
theorem ga_T_TS {ret : Option FieldType} {r : Option gaV} {K1 : gaK} {M1 : gaM} {K0 : gaK} {ad0 : Nat → Nat} : ga_TS (ga_T ret r K1 M1 K0 ad0) := by
  intro X K K2 ad1 c d mc ms hT ha hd
  obtain ⟨p, l, e, R, s, m, args, below, meth, c0, D, E, A, nL, cells, slots, Q, ad, K'⟩ := X
  obtain ⟨⟨h1, h2, h3, h4⟩, h5⟩ := hT
  refine ⟨⟨h1, h2, ?_, fun i hi => ?_⟩, fun i hi => hd i (h5 i hi)⟩
  · rw [h3, show cells + (c + mc) = cells + mc + c by omega, show slots + (d + ms) = slots + ms + d by omega]
  · refine (ha i (hi.imp_left (h5 i))).trans (h4 i hi)
theorem ga_metA {y : MethodName} {cc : ByteArray} {maxL : Nat} {ret : Option FieldType} {dp mc ms : Nat} {K K1 : gaK} {M M1 : gaM} {as : List gaV} {r : Option gaV} {own : String} (hy : plainName y.cls = true) (ho : y.cls = own) (hn : as.length ≤ maxL) (body : ∀ (X : gaX) (ad : Nat → Nat), ga_Z (ga_T ret r K1 M1 K ad) X cc own dp y.name mc ms K → ga_W X M 0 (as.map some ++ List.replicate (maxL - as.length) none) []) : ga_MetA y cc maxL ret dp mc ms K M as r K1 M1 := by
  subst ho
  intro l D E ad sz
  refine Met.ofW (cc := cc) (maxL := maxL) (ret := ret) hy rfl ?_
  intro p e s m args below meth c s₁ B hml hv
  obtain ⟨rfl, hsz, hR, hKK, hSF⟩ := hv
  subst hsz
  have hts := atoms_spec (ws := .code y cc maxL ret :: gaTb) B.pre
  have hown : s.vm.findClass y.cls = some m.cls := findClass_of_methodNamed B.named
  have hl := lv_entry (as.map (ga_cv ad)) (n := maxL) (by rw [ga_len]; exact hn)
  have hnm : meth.name = y.name := (name_of_methodNamed B.named B.method).1
  rw [lg_entry_eq]
  exact body (p, l, e, _, s, m, _, below, meth, c, D, E, ga_DA ad K s.heap.size, maxL, 0, 0, _, ad, K) ad ⟨⟨⟨B.exec, B.bytes, hml, hown, fun w h => hts w (List.mem_cons_of_mem _ h), hKK, B.notSynchronized, fun id sk h1 h2 => Or.inl ⟨id, sk, h1, Or.inl h2, rfl⟩, Nat.le_refl dp, Nat.le_refl (64 * dp), Nat.zero_le _, Nat.zero_le _⟩, fun q hq => Or.inr hq, by rw [Nat.zero_add]; exact Nat.le_refl mc, by rw [Nat.zero_add]; exact Nat.le_refl ms, fun id sk h1 h2 => Or.inl ⟨id, sk, h1, h2, rfl⟩, hSF⟩, rfl, hnm, ⟨⟨B.returns, rfl, by rw [Nat.zero_add, Nat.zero_add], fun _ _ => rfl⟩, fun _ h => h⟩, ga_T_TS⟩ s.heap [] _ hR va_S.rf (ga_L.of hn hl)
theorem ga_R.sub {D : va_G} {E : Nat → ClassId} {ad : Nat → Nat} {K K1 : gaK} {M : gaM} {H : Heap} (hR : ga_R D E ad K M H) (hs : ∀ (id : Nat) (sk : gaS), K1 id = some sk → K id = some sk) : ga_R D E ad K1 M H := ⟨fun id sk h => hR.1 id sk (hs id sk h), fun i j hi hj e => by
    obtain ⟨si, h1⟩ := Option.ne_none_iff_exists'.mp hi
    obtain ⟨sj, h2⟩ := Option.ne_none_iff_exists'.mp hj
    exact hR.2 i j (by rw [hs i si h1]; exact fun q => by cases q) (by rw [hs j sj h2]; exact fun q => by cases q) e⟩
section AC
variable {T : gaX → gaK → Nat → Nat → Prop} {X : gaX} {cc : ByteArray} {own nm : String} {dp c d : Nat} {K : gaK} {M : gaM} {pc pc' : Nat} {lv : List (Option gaV)} {st : List gaV}
/-- the end of a constructor -/
theorem z_vret {K1 K0 : gaK} {ad0 : Nat → Nat} (Z : ga_Z (ga_T none none K1 M K0 ad0) X cc own dp nm 0 0 K) (hs : ∀ (id : Nat) (sk : gaS), K1 id = some sk → K id = some sk) (dd : gd cc pc .return_ 1 pc') : ga_W X M pc lv [] := by
  obtain ⟨p, l, e, R, s, m, args, below, meth, c0, D, E, A, nL, cells, slots, Q, ad, K'⟩ := X
  obtain ⟨⟨⟨hx, hb, -, hown, hts, hKK, hlk, -⟩, hnew, hr1, hr2, hAA, hSF⟩, hK, -, ⟨⟨hr, hA, hQ, had⟩, -⟩, -⟩ := Z
  have hK : K' = K := hK
  subst hK
  obtain ⟨dd, rfl⟩ := dd
  subst hQ
  subst hA
  intro H locs ls hR hS hL
  exact W.vret hx hb hr (fun t ht hW => ⟨ad, had, rfl, by rw [ht]; exact hR.sub hs, va_K.moved hW.alike hKK, fun id sk h1 h2 => hAA id sk (hs id sk h1) h2, hS.F ht⟩) hS.2.2 dd hlk
theorem z_iret {K1 K0 : gaK} {ad0 : Nat → Nat} {v : Int} (Z : ga_Z (ga_T (some .int) (some (.inl v)) K1 M K0 ad0) X cc own dp nm 0 0 K) (hs : ∀ (id : Nat) (sk : gaS), K1 id = some sk → K id = some sk) (dd : gd cc pc .ireturn 1 pc') : ga_W X M pc lv [.inl v] := by
  obtain ⟨p, l, e, R, s, m, args, below, meth, c0, D, E, A, nL, cells, slots, Q, ad, K'⟩ := X
  obtain ⟨⟨⟨hx, hb, -, hown, hts, hKK, hlk, -⟩, hnew, hr1, hr2, hAA, hSF⟩, hK, -, ⟨⟨hr, hA, hQ, had⟩, -⟩, -⟩ := Z
  have hK : K' = K := hK
  subst hK
  obtain ⟨dd, rfl⟩ := dd
  subst hQ
  subst hA
  intro H locs ls hR hS hL
  exact W.iret (v := Int32.ofInt v) hx hb hr (fun t ht hW => ⟨ad, had, rfl, by rw [ht]; exact hR.sub hs, va_K.moved hW.alike hKK, fun id sk h1 h2 => hAA id sk (hs id sk h1) h2, hS.F ht⟩) hS.2.2 dd hlk
theorem z_zret {K1 K0 : gaK} {ad0 : Nat → Nat} {v : Int} (Z : ga_Z (ga_T (some .boolean) (some (.inl v)) K1 M K0 ad0) X cc own dp nm 0 0 K) (hv : v = 0 ∨ v = 1) (hs : ∀ (id : Nat) (sk : gaS), K1 id = some sk → K id = some sk) (dd : gd cc pc .ireturn 1 pc') : ga_W X M pc lv [.inl v] := by
  obtain ⟨p, l, e, R, s, m, args, below, meth, c0, D, E, A, nL, cells, slots, Q, ad, K'⟩ := X
  obtain ⟨⟨⟨hx, hb, -, hown, hts, hKK, hlk, -⟩, hnew, hr1, hr2, hAA, hSF⟩, hK, -, ⟨⟨hr, hA, hQ, had⟩, -⟩, -⟩ := Z
  have hK : K' = K := hK
  subst hK
  obtain ⟨dd, rfl⟩ := dd
  subst hQ
  subst hA
  intro H locs ls hR hS hL
  exact W.zret (v := Int32.ofInt v) hx hb hr (ga_nz hv) (fun t ht hW => ⟨ad, had, rfl, by rw [ht]; exact hR.sub hs, va_K.moved hW.alike hKK, fun id sk h1 h2 => hAA id sk (hs id sk h1) h2, hS.F ht⟩) hS.2.2 dd hlk
theorem z_aret {K1 K0 : gaK} {ad0 : Nat → Nat} {v : Option Nat} {rt : FieldType} (Z : ga_Z (ga_T (some rt) (some (.inr v)) K1 M K0 ad0) X cc own dp nm 0 0 K) (hrt : (∃ n, rt = .object n) ∨ ∃ t, rt = .array t) (hs : ∀ (id : Nat) (sk : gaS), K1 id = some sk → K id = some sk) (dd : gd cc pc .areturn 1 pc') : ga_W X M pc lv [.inr v] := by
  obtain ⟨p, l, e, R, s, m, args, below, meth, c0, D, E, A, nL, cells, slots, Q, ad, K'⟩ := X
  obtain ⟨⟨⟨hx, hb, -, hown, hts, hKK, hlk, -⟩, hnew, hr1, hr2, hAA, hSF⟩, hK, -, ⟨⟨hr, hA, hQ, had⟩, -⟩, -⟩ := Z
  have hK : K' = K := hK
  subst hK
  obtain ⟨dd, rfl⟩ := dd
  subst hQ
  subst hA
  intro H locs ls hR hS hL
  exact W.aret (v := va_rf (v.map ad)) hx hb hr hrt (va_rf_or _) (fun t ht hW => ⟨ad, had, rfl, by rw [ht]; exact hR.sub hs, va_K.moved hW.alike hKK, fun id sk h1 h2 => hAA id sk (hs id sk h1) h2, hS.F ht⟩) hS.2.2 dd hlk
/-- Object's own constructor does nothing -/
theorem z_oinit {idx id : Nat} (Z : ga_Z T X cc own dp nm c d K) (dd : gd cc pc (.invokespecial idx) 3 pc') (hl : Cond.methodLink own idx objectInit ∈ gaTb) (hi : Cond.instanceMethod objectInit ∈ gaTb) (hc : Cond.code objectInit ⟨#[0xb1]⟩ 1 none ∈ gaTb) (h1 : 1 ≤ dp) (hst : st.length ≤ 8) (kk : ga_W X M pc' lv st) : ga_W X M pc lv (.inr (some id) :: st) := by
  obtain ⟨p, l, e, R, s, m, args, below, meth, c0, D, E, A, nL, cells, slots, Q, ad, K'⟩ := X
  obtain ⟨⟨⟨hx, hb, hml, hown, hts, hKK, hlk, hA, hf1, hf2, hf3, hf4⟩, hnew, hr1, hr2, -⟩, -⟩ := Z
  obtain ⟨dd, rfl⟩ := dd
  intro H locs ls hR hS hL
  have := ga_lenI (ad := ad) hst
  exact W.objInit hx hb hown (hts _ hl) (hts _ hi) (hts _ hc) rfl (by rw [hml]; exact hL.1) rfl dd (by omega) (by show 2 * 0 + _ + 12 ≤ R.locals; omega) (kk H locs ls hR hS hL)
def inK (K : gaK) (v : gaV) : Prop := ∀ i, v = .inr (some i) → K i ≠ none ∨ pin i
theorem cv_in {ad ad1 : Nat → Nat} {K : gaK} {v : gaV} (h : inK K v) (ha : ∀ id, K id ≠ none ∨ pin id → ad1 id = ad id) : ga_cv ad1 v = ga_cv ad v := by
  rcases v with x | r
  · rfl
  · cases r with
    | none => rfl
    | some r =>
      show va_rf (some (ad1 r)) = va_rf (some (ad r))
      rw [ha r (h r rfl)]
-- all that locals and stack name is there
def okl (K : gaK) : List (Option gaV) → Prop
  | [] => True
  | some (.inr (some i)) :: l => (K i ≠ none ∨ pin i) ∧ okl K l
  | _ :: l => okl K l
theorem okl_in {K : gaK} : ∀ {lv : List (Option gaV)}, okl K lv → ∀ v : gaV, some v ∈ lv → inK K v
  | [], _, v, hv => by cases hv
  | none :: l, h, v, hv => by
    rcases List.mem_cons.mp hv with e | hv
    · cases e
    · exact okl_in (lv := l) h v hv
  | some (.inl x) :: l, h, v, hv => by
    rcases List.mem_cons.mp hv with e | hv
    · cases e
      exact fun i q => by cases q
    · exact okl_in (lv := l) h v hv
  | some (.inr none) :: l, h, v, hv => by
    rcases List.mem_cons.mp hv with e | hv
    · cases e
      exact fun i q => by cases q
    · exact okl_in (lv := l) h v hv
  | some (.inr (some j)) :: l, h, v, hv => by
    rcases List.mem_cons.mp hv with e | hv
    · cases e
      intro i q
      cases q
      exact h.1
    · exact okl_in (lv := l) h.2 v hv
theorem ga_callA {R : Room} {s : State} {args : Array Value} {idx : Nat} {y : MethodName} {cy : ByteArray} {maxL n d' mc ms : Nat} {ret : Option FieldType} (hts : ∀ w ∈ gaTb, w.before args s = true) (hl : Cond.methodLink own idx y ∈ gaTb) (hm : ga_wm y cy maxL ret n) (hd : d' < dp) (h1 : dp ≤ R.frames) (h2 : 64 * dp ≤ R.locals) :
    CallB R s args own idx y cy maxL ret (.code y cy maxL ret :: gaTb) (ga_rmA d' mc ms) mc ms n := by
  obtain ⟨m1, m2, m3, m4, m5⟩ := hm
  refine callB_of n hts (ws' := gaTb) (fun w hw => ?_) rfl rfl rfl (hts _ m2) (hts _ hl) ⟨m3.1, m3.2, m4⟩ ⟨?_, ?_⟩
  · rcases List.mem_cons.mp hw with rfl | hw
    · exact ⟨m1, ga_good m1⟩
    · exact ⟨hw, ga_good hw⟩
  · show d' + 1 ≤ R.frames
    omega
  · show 8 + (maxL + 11) + 64 * d' ≤ R.locals
    omega
theorem ga_DA.in {p : Program} {l : Launch} {e : Env} {R : Room} {s : State} {m : MethodId} {args : Array Value} {below : List Frame} {meth : Method} {c0 : Code} {D : va_G} {E : Nat → ClassId} {A : Nat → Prop} {nL cells slots : Nat} {Q : State → Prop} {ad : Nat → Nat} {H : Heap} {locs : List Loc} (C : ga_CA (p, l, e, R, s, m, args, below, meth, c0, D, E, A, nL, cells, slots, Q, ad, K) cc own dp c d) (hS : va_S A s.heap H locs) : ∀ q, ga_DA ad K H.size q → A q := fun q h => by
  rcases h with ⟨i, sk, h1, h2, h3⟩ | h
  · rw [h3]; exact C.2.2.2.2.1 i sk h1 h2
  · exact C.2.1 q (Nat.le_trans hS.1 h)
theorem ga_preA {p : Program} {l : Launch} {e : Env} {R : Room} {s : State} {m : MethodId} {args : Array Value} {below : List Frame} {meth : Method} {c0 : Code} {D : va_G} {E : Nat → ClassId} {A : Nat → Prop} {nL cells slots : Nat} {Q : State → Prop} {ad : Nat → Nat} {H : Heap} {locs : List Loc} {av : List Value} (C : ga_CA (p, l, e, R, s, m, args, below, meth, c0, D, E, A, nL, cells, slots, Q, ad, K) cc own dp c d) (hR : ga_R D E ad K M H) (hS : va_S A s.heap H locs) : PreS s H (va_Pc av (fun U => U.heap.size = H.size ∧ ga_R D E ad K M U.heap ∧ va_K D gaT (gaA E) U ∧ ga_SF ad (ga_DA ad K H.size) U U.heap)) av := by
  have hD := ga_DA.in C hS
  obtain ⟨⟨hx, hb, hml, hown, hts, hKK, hlk, hA, hf1, hf2, hf3, hf4⟩, hnew, hr1, hr2, hAA, hSF⟩ := C
  refine ⟨fun a U g mk q => ?_, fun U hU hW => ⟨rfl, by rw [hU], by rw [hU]; exact hR, va_K.moved hW.alike hKK, by
    rw [hU]
    exact (hSF.moved hW.alike).kept (fun a h1 h2 => hS.2.1 a h1 h2) hD⟩⟩
  obtain ⟨q0, q1, q2, q3, q4⟩ := q
  exact ⟨q0, q1, q2, va_K.moved (u := U) (U := U.calling g mk a) (Vm.Alike.refl U.vm) q3, ga_SF.moved (u := U) (U := U.calling g mk a) (Vm.Alike.refl U.vm) q4⟩
-- behind a call that makes cells
theorem ga_afterA {p : Program} {l : Launch} {e : Env} {R : Room} {s : State} {m : MethodId} {args : Array Value} {below : List Frame} {meth : Method} {c0 : Code} {D : va_G} {E : Nat → ClassId} {A : Nat → Prop} {nL cells slots mc ms : Nat} {Q : State → Prop} {ad : Nat → Nat} {H : Heap} {locs : List Loc} {ls : Array Slot} {vs : List Value} {K1 : gaK} {M1 : gaM} {r : Option gaV} {rest : List gaV} {a : Array Value} (Z : ga_Z T (p, l, e, R, s, m, args, below, meth, c0, D, E, A, nL, cells, slots, Q, ad, K) cc own dp nm (c + mc) (d + ms) K) (hS : va_S A s.heap H locs) (hL : ga_L ad lv nL ls) (hdom : ∀ id, K id ≠ none → K1 id ≠ none) (hlv : okl K lv) (hrs : okl K (rest.map some))
    (hr : va_Run p l e R s m args below meth c0 H locs cells slots mc ms (F0 m pc ls vs) (rest.map (ga_cv ad)) (ga_QA D E ad K K1 r M1 H.size a) (ga_DA ad K H.size))
    (kk : ∀ X', ga_Z T X' cc own dp nm c d K1 → ga_W X' M1 (pc + 3) lv (r.toList ++ rest)) : W p l e R s m args below meth c0 H locs cells slots Q (F0 m pc ls vs) := by
  have hD := ga_DA.in Z.1 hS
  have Z0 := Z
  obtain ⟨⟨⟨hx, hb, hml, hown, hts, hKK, hlk, hA, hf1, hf2, hf3, hf4⟩, hnew, hr1, hr2, hAA, hSF⟩, -⟩ := Z0
  intro T1 hT X
  obtain ⟨v, st₀, t, T', L, h0, X', hLL, e1, e2, ⟨ad1, ha, hv, hR1, -, hDA, hz, hk⟩, stp⟩ := hr T1 hT X
  cases hv
  rw [h0] at hz hk
  have hw2 := kk _ (Z.jp (mc := mc) (ms := ms) (ad1 := ad1) (K1 := K1) ha hdom ⟨⟨hx, hb, hml, hown, hts, hKK, hlk, fun i sk h1 h2 => hD _ (hDA i sk h1 (.inl h2)), hf1, hf2, by omega, by omega⟩, hnew, by omega, by omega, fun i sk h1 h2 => hD _ (hDA i sk h1 h2), hSF.ad (fun i hi => ha i (.inr hi))⟩) T'.heap (locs ++ L) ls (by rw [e1]; exact hR1)
    ⟨Nat.le_trans hS.1 (by rw [e1]; exact hz), fun q h1 h2 => by rw [e1, hk q (Nat.lt_of_lt_of_le h1 hS.1) (fun z => h2 (hD q z))]; exact hS.2.1 q h1 h2, fun q hq => by
      rcases List.mem_append.mp hq with h | h
      · exact hS.2.2 q h
      · exact hD _ (hLL q h)⟩ ⟨hL.1, hL.2.1, hL.2.2.1, fun i v hv => by
      rw [cv_in (okl_in hlv v (List.mem_of_getElem? hv)) ha]
      exact hL.2.2.2 i v hv⟩
  have e3 : rest.map (ga_cv ad1) = rest.map (ga_cv ad) := List.map_congr_left (fun v hv => cv_in (okl_in hrs v (List.mem_map_of_mem hv)) ha)
  have e4 : (r.toList ++ rest).map (ga_cv ad1) = (r.map (ga_cv ad1)).toList ++ rest.map (ga_cv ad) := by
    rw [List.map_append, e3]
    cases r <;> rfl
  rw [e4] at hw2
  obtain ⟨t2, a1, b1⟩ := hw2 T' rfl X'
  exact ⟨t2, stp t2 a1, b1⟩
/-- a constructor's call -/
theorem z_callI {idx id n maxL d' mc ms : Nat} {y : MethodName} {cy : ByteArray} {K1 : gaK} {M1 : gaM} {rest : List gaV} (as : List gaV) (Z : ga_Z T X cc own dp nm (c + mc) (d + ms) K) (dd : gd cc pc (.invokespecial idx) 3 pc') (hl : Cond.methodLink own idx y ∈ gaTb) (hm : ga_wm y cy maxL none n) (hin : y.name = "<init>") (hi : Cond.instanceMethod y ∈ gaTb) (hM : ga_MetA y cy maxL none d' mc ms K M (.inr (some id) :: as) none K1 M1) (hd : d' < dp) (hn : as.length = n) (hst : st = as.reverse ++ .inr (some id) :: rest) (hw : rest.length ≤ 8) (hdom : ∀ id, K id ≠ none → K1 id ≠ none) (hlv : okl K lv) (hrs : okl K (rest.map some))
    (kk : ∀ X', ga_Z T X' cc own dp nm c d K1 → ga_W X' M1 pc' lv rest) : ga_W X M pc lv st := by
  obtain ⟨p, l, e, R, s, m, args, below, meth, c0, D, E, A, nL, cells, slots, Q, ad, K'⟩ := X
  have hK : K' = K := Z.2.1
  subst hK
  have Z0 := Z
  obtain ⟨⟨⟨hx, hb, hml, hown, hts, hKK, hlk, hA, hf1, hf2, hf3, hf4⟩, hnew, hr1, hr2, hAA, hSF⟩, -⟩ := Z0
  obtain ⟨dd, rfl⟩ := dd
  intro H locs ls hR hS hL
  exact ga_afterA (r := none) Z hS hL hdom hlv hrs (va_runI (Ts := gaTb) (As := as.map (ga_cv ad)) (b := ad id) (rest := rest.map (ga_cv ad)) (H := H) (locs := locs) (cells := cells) (slots := slots) (g := F0 m pc ls (st.map (ga_cv ad))) (p := p) (e := e) (below := below) (meth := meth) ⟨hx, hb, hml, hown, hts⟩ (hM l D E ad H.size) ⟨ga_callA hts hl hm hd hf1 hf2, hin, hts _ hi⟩ (ga_preA Z.1 hR hS) rfl (by rw [List.length_map]; exact hn) hL.1 (by
      show st.map (ga_cv ad) = _
      rw [hst]
      simp [ga_cv, va_rf]) (lv_room (ga_lenI hw)) dd ⟨by omega, by omega⟩) kk
/-- a method's call that makes cells -/
theorem z_callV {idx ci id n maxL d' mc ms : Nat} {y : MethodName} {cy : ByteArray} {ret : Option FieldType} {K1 : gaK} {M1 : gaM} {r : Option gaV} {rf : Nat → Option (Option Nat)} {rest : List gaV} (as : List gaV) (Z : ga_Z T X cc own dp nm (c + mc) (d + ms) K) (dd : gd cc pc (.invokevirtual idx) 3 pc') (hl : Cond.methodLink own idx y ∈ gaTb) (hm : ga_wm y cy maxL ret n) (hv : ga_wv y ci) (hk : K id = some (.inr (.inl (ci, rf)))) (hM : ga_MetA y cy maxL ret d' mc ms K M (.inr (some id) :: as) r K1 M1) (hd : d' < dp) (hn : as.length = n) (hst : st = as.reverse ++ .inr (some id) :: rest) (hw : rest.length ≤ 8) (hdom : ∀ id, K id ≠ none → K1 id ≠ none) (hlv : okl K lv) (hrs : okl K (rest.map some))
    (kk : ∀ X', ga_Z T X' cc own dp nm c d K1 → ga_W X' M1 pc' lv (r.toList ++ rest)) : ga_W X M pc lv st := by
  obtain ⟨p, l, e, R, s, m, args, below, meth, c0, D, E, A, nL, cells, slots, Q, ad, K'⟩ := X
  have hK : K' = K := Z.2.1
  subst hK
  have Z0 := Z
  obtain ⟨⟨⟨hx, hb, hml, hown, hts, hKK, hlk, hA, hf1, hf2, hf3, hf4⟩, hnew, hr1, hr2, hAA, hSF⟩, -⟩ := Z0
  obtain ⟨dd, rfl⟩ := dd
  obtain ⟨⟨q, hq, hqy⟩, hv1, hv2⟩ := hv
  intro H locs ls hR hS hL
  obtain ⟨q', hq', cell, q1, q2, q3, q4⟩ := hR.1 id _ hk
  cases hq.symm.trans hq'
  have hp := ga_preA (av := (.inr (some id) :: as).map (ga_cv ad)) Z.1 hR hS
  exact ga_afterA Z hS hL hdom hlv hrs (va_runV (C := y.cls) (Ts := gaTb) (As := as.map (ga_cv ad)) (b := ad id) (rest := rest.map (ga_cv ad)) (H := H) (locs := locs) (cells := cells) (slots := slots) (g := F0 m pc ls (st.map (ga_cv ad))) (p := p) (e := e) (below := below) (meth := meth) ⟨hx, hb, hml, hown, hts⟩ (hM l D E ad H.size) ⟨ga_callA hts hl hm hd hf1 hf2, hts _ hv1, hts _ hv2⟩ ⟨hp.1, ⟨cell, q1, by rw [q3]; rfl, by rw [q2, ← hqy]; exact (hKK.1 ci q hq).2.1⟩, hp.2⟩ rfl (by rw [List.length_map]; exact hn) hL.1 (by
      show st.map (ga_cv ad) = _
      rw [hst]
      simp [ga_cv, va_rf]) (lv_room (ga_lenI hw)) dd ⟨by omega, by omega⟩) kk
theorem z_callS {idx n maxL d' mc ms : Nat} {y : MethodName} {cy : ByteArray} {ret : Option FieldType} {K1 : gaK} {M1 : gaM} {r : Option gaV} {rest : List gaV} (as : List gaV) (Z : ga_Z T X cc own dp nm (c + mc) (d + ms) K) (dd : gd cc pc (.invokestatic idx) 3 pc') (hl : Cond.methodLink own idx y ∈ gaTb) (hm : ga_wm y cy maxL ret n) (hv : Cond.static y ∈ gaTb) (hM : ga_MetA y cy maxL ret d' mc ms K M as r K1 M1) (hd : d' < dp) (hn : as.length = n) (hst : st = as.reverse ++ rest) (hw : rest.length ≤ 8) (hdom : ∀ id, K id ≠ none → K1 id ≠ none) (hlv : okl K lv) (hrs : okl K (rest.map some))
    (kk : ∀ X', ga_Z T X' cc own dp nm c d K1 → ga_W X' M1 pc' lv (r.toList ++ rest)) : ga_W X M pc lv st := by
  obtain ⟨p, l, e, R, s, m, args, below, meth, c0, D, E, A, nL, cells, slots, Q, ad, K'⟩ := X
  have hK : K' = K := Z.2.1
  subst hK
  have Z0 := Z
  obtain ⟨⟨⟨hx, hb, hml, hown, hts, hKK, hlk, hA, hf1, hf2, hf3, hf4⟩, hnew, hr1, hr2, hAA, hSF⟩, -⟩ := Z0
  obtain ⟨dd, rfl⟩ := dd
  intro H locs ls hR hS hL
  exact ga_afterA Z hS hL hdom hlv hrs (va_runS (Ts := gaTb) (As := as.map (ga_cv ad)) (rest := rest.map (ga_cv ad)) (H := H) (locs := locs) (cells := cells) (slots := slots) (g := F0 m pc ls (st.map (ga_cv ad))) (p := p) (e := e) (below := below) (meth := meth) ⟨hx, hb, hml, hown, hts⟩ (hM l D E ad H.size) ⟨ga_callA hts hl hm hd hf1 hf2, hts _ hv⟩ (ga_preA Z.1 hR hS) rfl (by rw [List.length_map]; exact hn) hL.1 (by
      show st.map (ga_cv ad) = _
      rw [hst]
      simp) (lv_room (ga_lenI hw)) dd ⟨by omega, by omega⟩) kk
end AC

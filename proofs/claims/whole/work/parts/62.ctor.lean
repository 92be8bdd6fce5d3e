/-! ===== the machine: methods that make cells ===== -/
def ga_DA (ad : Nat → Nat) (K : gaK) (sz : Nat) : Nat → Prop := fun q => ga_D ad K q ∨ sz ≤ q
def ga_QA (D : va_G) (E : Nat → ClassId) (ad : Nat → Nat) (K K1 : gaK) (r : Option gaV) (M1 : gaM) (sz : Nat) : Array Value → State → Outcome → State → Prop := fun _ st oc t => ∃ ad1 : Nat → Nat, (∀ id, K id ≠ none → ad1 id = ad id) ∧ oc = .returned (r.map (ga_cv ad1)) ∧ ga_R D E ad1 K1 M1 t.heap ∧ va_K D gaT (gaA E) t ∧ (∀ (id : Nat) (sk : gaS), K1 id = some sk → ga_wr sk → ga_DA ad K sz (ad1 id)) ∧ va_F (ga_DA ad K sz) st t
def ga_rmA (dp mc ms : Nat) : Room := { frames := dp, cells := mc, slots := ms, locals := 64 * dp }
/-- a contract with new cells: from K, M to K1, M1 -/
def ga_MetA (y : MethodName) (cc : ByteArray) (maxL : Nat) (ret : Option FieldType) (dp mc ms : Nat) (K : gaK) (M : gaM) (as : List gaV) (r : Option gaV) (K1 : gaK) (M1 : gaM) : Prop :=
  ∀ (l : Launch) (D : va_G) (E : Nat → ClassId) (ad : Nat → Nat) (sz : Nat), Met l y (.code y cc maxL ret :: gaTb) (ga_rmA dp mc ms) (va_Pc (as.map (ga_cv ad)) (fun U => U.heap.size = sz ∧ ga_R D E ad K M U.heap ∧ va_K D gaT (gaA E) U)) (ga_QA D E ad K K1 r M1 sz) mc ms (ga_DA ad K sz)
-- what the end of such a method needs: the first K and ad, the end's K and M
def ga_RtA (X : gaX) (ret : Option FieldType) (r : Option gaV) (K1 : gaK) (M1 : gaM) (K0 : gaK) (ad0 : Nat → Nat) (c d : Nat) : Prop := match X with
  | (p, l, e, R, s, m, args, below, meth, c0, D, E, A, nL, cells, slots, Q, ad, K) => meth.sig.returnType = ret ∧ A = ga_DA ad0 K0 s.heap.size ∧ Q = MQ below (ga_QA D E ad0 K0 K1 r M1 s.heap.size) args s (cells + c) (slots + d) A ∧ ∀ id, K0 id ≠ none → ad id = ad0 id
theorem ga_metA {y : MethodName} {cc : ByteArray} {maxL : Nat} {ret : Option FieldType} {dp mc ms : Nat} {K K1 : gaK} {M M1 : gaM} {as : List gaV} {r : Option gaV} {own : String} (hy : plainName y.cls = true) (ho : y.cls = own) (hn : as.length ≤ maxL) (body : ∀ (X : gaX) (ad : Nat → Nat), ga_CA X cc own dp mc ms → ga_K X = K → ga_nm X = y.name → ga_RtA X ret r K1 M1 K ad mc ms → ga_W X M 0 (as.map some ++ List.replicate (maxL - as.length) none) []) : ga_MetA y cc maxL ret dp mc ms K M as r K1 M1 := by
  subst ho
  intro l D E ad sz
  refine Met.ofW (cc := cc) (maxL := maxL) (ret := ret) hy rfl ?_
  intro p e s m args below meth c s₁ B hml hv
  obtain ⟨rfl, hsz, hR, hKK⟩ := hv
  subst hsz
  have hts := atoms_spec (ws := .code y cc maxL ret :: gaTb) B.pre
  have hown : s.vm.findClass y.cls = some m.cls := findClass_of_methodNamed B.named
  have hl := lv_entry (as.map (ga_cv ad)) (n := maxL) (by rw [ga_len]; exact hn)
  have hnm : meth.name = y.name := (name_of_methodNamed B.named B.method).1
  rw [lg_entry_eq]
  exact body (p, l, e, _, s, m, _, below, meth, c, D, E, ga_DA ad K s.heap.size, maxL, 0, 0, _, ad, K) ad ⟨⟨B.exec, B.bytes, hml, hown, fun w h => hts w (List.mem_cons_of_mem _ h), hKK, B.notSynchronized, fun id sk h1 h2 => Or.inl ⟨id, sk, h1, h2, rfl⟩, Nat.le_refl dp, Nat.le_refl (64 * dp), Nat.zero_le _, Nat.zero_le _⟩, fun q hq => Or.inr hq, by rw [Nat.zero_add]; exact Nat.le_refl mc, by rw [Nat.zero_add]; exact Nat.le_refl ms⟩ rfl hnm ⟨B.returns, rfl, by rw [Nat.zero_add, Nat.zero_add], fun _ _ => rfl⟩ s.heap [] _ hR va_S.rf (ga_L.of hn hl)
section AC
variable {X : gaX} {cc : ByteArray} {own : String} {dp c d : Nat} {M : gaM} {pc pc' : Nat} {lv : List (Option gaV)} {st : List gaV}
theorem ga_RtA.up {ret : Option FieldType} {r : Option gaV} {K1 K0 : gaK} {M1 : gaM} {ad0 : Nat → Nat} {id a N : Nat} {sk : gaS} (h : ga_RtA X ret r K1 M1 K0 ad0 (c + 1) (d + N)) (hf : K0 id = none) : ga_RtA (ga_up X id a sk N) ret r K1 M1 K0 ad0 c d := by
  obtain ⟨p, l, e, R, s, m, args, below, meth, c0, D, E, A, nL, cells, slots, Q, ad, K⟩ := X
  obtain ⟨h1, h2, h3, h4⟩ := h
  refine ⟨h1, h2, ?_, fun i hi => ?_⟩
  · rw [h3, show cells + (c + 1) = cells + 1 + c by omega, show slots + (d + N) = slots + N + d by omega]
  · show adu ad id a i = ad0 i
    rw [adu_ne (fun e => hi (by rw [e]; exact hf))]
    exact h4 i hi
theorem ga_RtA.rk {ret : Option FieldType} {r : Option gaV} {K1 K0 : gaK} {M1 : gaM} {ad0 : Nat → Nat} {id : Nat} {sk : gaS} (h : ga_RtA X ret r K1 M1 K0 ad0 c d) : ga_RtA (ga_rk X id sk) ret r K1 M1 K0 ad0 c d := by
  obtain ⟨p, l, e, R, s, m, args, below, meth, c0, D, E, A, nL, cells, slots, Q, ad, K⟩ := X
  obtain ⟨h1, h2, h3, h4⟩ := h
  exact ⟨h1, h2, h3, h4⟩
/-- the end of a constructor -/
theorem ga_vretA {K1 K0 : gaK} {ad0 : Nat → Nat} (C : ga_CA X cc own dp 0 0) (T : ga_RtA X none none K1 M K0 ad0 0 0) (hs : ∀ (id : Nat) (sk : gaS), K1 id = some sk → ga_K X id = some sk) (dd : gd cc pc .return_ 1 pc') : ga_W X M pc lv [] := by
  obtain ⟨p, l, e, R, s, m, args, below, meth, c0, D, E, A, nL, cells, slots, Q, ad, K⟩ := X
  obtain ⟨⟨hx, hb, -, hown, hts, hKK, hlk, hAA, -⟩, -⟩ := C
  obtain ⟨hr, hA, hQ, had⟩ := T
  obtain ⟨dd, rfl⟩ := dd
  have hs2 : ∀ (id : Nat) (sk : gaS), K1 id = some sk → K id = some sk := hs
  clear hs
  subst hQ
  subst hA
  intro H locs ls hR hS hL
  have hR1 : ga_R D E ad K1 M H := ⟨fun id sk h => hR.1 id sk (hs2 id sk h), fun i j hi hj e => by
    obtain ⟨si, h1⟩ := Option.ne_none_iff_exists'.mp hi
    obtain ⟨sj, h2⟩ := Option.ne_none_iff_exists'.mp hj
    exact hR.2 i j (by rw [hs2 i si h1]; exact fun q => by cases q) (by rw [hs2 j sj h2]; exact fun q => by cases q) e⟩
  exact W.vret hx hb hr (fun t ht hW => ⟨ad, had, rfl, by rw [ht]; exact hR1, va_K.moved hW.alike hKK, fun id sk h1 h2 => hAA id sk (hs2 id sk h1) h2, hS.F ht⟩) hS.2.2 dd hlk
/-- Object's own constructor does nothing -/
theorem ga_oinit {idx id : Nat} (C : ga_CA X cc own dp c d) (dd : gd cc pc (.invokespecial idx) 3 pc') (hl : Cond.methodLink own idx objectInit ∈ gaTb) (hi : Cond.instanceMethod objectInit ∈ gaTb) (hc : Cond.code objectInit ⟨#[0xb1]⟩ 1 none ∈ gaTb) (h1 : 1 ≤ dp) (hst : st.length ≤ 8) (kk : ga_W X M pc' lv st) : ga_W X M pc lv (.inr (some id) :: st) := by
  obtain ⟨p, l, e, R, s, m, args, below, meth, c0, D, E, A, nL, cells, slots, Q, ad, K⟩ := X
  obtain ⟨⟨hx, hb, hml, hown, hts, hKK, hlk, hA, hf1, hf2, hf3, hf4⟩, hnew, hr1, hr2⟩ := C
  obtain ⟨dd, rfl⟩ := dd
  intro H locs ls hR hS hL
  have := ga_lenI (ad := ad) hst
  exact W.objInit hx hb hown (hts _ hl) (hts _ hi) (hts _ hc) rfl (by rw [hml]; exact hL.1) rfl dd (by omega) (by show 2 * 0 + _ + 12 ≤ R.locals; omega) (kk H locs ls hR hS hL)
def ga_jp (X : gaX) (ad1 : Nat → Nat) (K1 : gaK) (mc ms : Nat) : gaX := match X with
  | (p, l, e, R, s, m, args, below, meth, c, D, E, A, nL, cells, slots, Q, ad, K) => (p, l, e, R, s, m, args, below, meth, c, D, E, A, nL, cells + mc, slots + ms, Q, ad1, K1)
def ga_ad (X : gaX) : Nat → Nat := match X with
  | (_, _, _, _, _, _, _, _, _, _, _, _, _, _, _, _, _, ad, _) => ad
def inK (K : gaK) (v : gaV) : Prop := ∀ i, v = .inr (some i) → K i ≠ none
theorem cv_in {ad ad1 : Nat → Nat} {K : gaK} {v : gaV} (h : inK K v) (ha : ∀ id, K id ≠ none → ad1 id = ad id) : ga_cv ad1 v = ga_cv ad v := by
  rcases v with x | r
  · rfl
  · cases r with
    | none => rfl
    | some r =>
      show va_rf (some (ad1 r)) = va_rf (some (ad r))
      rw [ha r (h r rfl)]
theorem ga_callA {R : Room} {s : State} {args : Array Value} {idx : Nat} {y : MethodName} {cy : ByteArray} {maxL n d' mc ms : Nat} {ret : Option FieldType} (hts : ∀ w ∈ gaTb, w.before args s = true) (hl : Cond.methodLink own idx y ∈ gaTb) (hm : ga_wm y cy maxL ret n) (hd : d' < dp) (h1 : dp ≤ R.frames) (h2 : 64 * dp ≤ R.locals) :
    CallB R s args own idx y cy maxL ret (.code y cy maxL ret :: gaTb) (ga_rmA d' mc ms) mc ms n := by
  obtain ⟨m1, m2, m3, m4, m5⟩ := hm
  refine callB_of n hts (ws' := gaTb) (fun w hw => ?_) rfl rfl rfl (hts _ m2) (hts _ hl) ⟨m3.1, m3.2, m4⟩ ⟨?_, ?_⟩
  · rcases List.mem_cons.mp hw with rfl | hw
    · exact ⟨m1, ga_good m1⟩
    · exact ⟨hw, ga_good hw⟩
  · show d' + 1 ≤ R.frames
    omega
  · show 8 + (maxL + 11) + 64 * d' ≤ R.locals
    omega
/-- a constructor's call -/
theorem ga_callI {idx id n maxL d' mc ms : Nat} {y : MethodName} {cy : ByteArray} {K K1 : gaK} {M1 : gaM} {rest : List gaV} (as : List gaV) (C : ga_CA X cc own dp (c + mc) (d + ms)) (hK : ga_K X = K) (dd : gd cc pc (.invokespecial idx) 3 pc') (hl : Cond.methodLink own idx y ∈ gaTb) (hm : ga_wm y cy maxL none n) (hin : y.name = "<init>") (hi : Cond.instanceMethod y ∈ gaTb) (hM : ga_MetA y cy maxL none d' mc ms K M (.inr (some id) :: as) none K1 M1) (hd : d' < dp) (hn : as.length = n) (hst : st = as.reverse ++ .inr (some id) :: rest) (hw : rest.length ≤ 8) (hlv : ∀ v : gaV, some v ∈ lv → inK K v) (hrs : ∀ v ∈ rest, inK K v)
    (kk : ∀ ad1, (∀ id, K id ≠ none → ad1 id = ga_ad X id) → ga_CA (ga_jp X ad1 K1 mc ms) cc own dp c d → ga_W (ga_jp X ad1 K1 mc ms) M1 pc' lv rest) : ga_W X M pc lv st := by
  obtain ⟨p, l, e, R, s, m, args, below, meth, c0, D, E, A, nL, cells, slots, Q, ad, K'⟩ := X
  obtain ⟨⟨hx, hb, hml, hown, hts, hKK, hlk, hA, hf1, hf2, hf3, hf4⟩, hnew, hr1, hr2⟩ := C
  obtain ⟨dd, rfl⟩ := dd
  have hK : K' = K := hK
  subst hK
  intro H locs ls hR hS hL
  have hr := va_runI (Ts := gaTb) (As := as.map (ga_cv ad)) (b := ad id) (rest := rest.map (ga_cv ad)) (H := H) (locs := locs) (cells := cells) (slots := slots) (g := F0 m pc ls (st.map (ga_cv ad))) (p := p) (e := e) (below := below) (meth := meth) ⟨hx, hb, hml, hown, hts⟩ (hM l D E ad H.size) ⟨ga_callA hts hl hm hd hf1 hf2, hin, hts _ hi⟩ ⟨fun a U g mk q => by
      obtain ⟨q0, q1, q2, q3⟩ := q
      exact ⟨q0, q1, q2, va_K.moved (u := U) (U := U.calling g mk a) (Vm.Alike.refl U.vm) q3⟩, fun U hU hW => ⟨rfl, by rw [hU], by rw [hU]; exact hR, va_K.moved hW.alike hKK⟩⟩ rfl (by rw [List.length_map]; exact hn) hL.1 (by
      show st.map (ga_cv ad) = _
      rw [hst]
      simp [ga_cv, va_rf]) (lv_room (ga_lenI hw)) dd ⟨by omega, by omega⟩
  intro T hT X
  obtain ⟨v, st₀, t, T', L, h0, X', hLL, e1, e2, ⟨ad1, ha, hv, hR1, -, hDA, hz, hk⟩, stp⟩ := hr T hT X
  cases hv
  rw [h0] at hz hk
  have hD : ∀ q, ga_DA ad K' H.size q → A q := fun q h => by
    rcases h with ⟨i, sk, h1, h2, h3⟩ | h
    · rw [h3]; exact hA i sk h1 h2
    · exact hnew q (Nat.le_trans hS.1 h)
  have hw2 := kk ad1 ha ⟨⟨hx, hb, hml, hown, hts, hKK, hlk, fun i sk h1 h2 => hD _ (hDA i sk h1 h2), hf1, hf2, by omega, by omega⟩, hnew, by omega, by omega⟩ T'.heap (locs ++ L) ls (by rw [e1]; exact hR1)
    ⟨Nat.le_trans hS.1 (by rw [e1]; exact hz), fun q h1 h2 => by rw [e1, hk q (Nat.lt_of_lt_of_le h1 hS.1) (fun z => h2 (hD q z))]; exact hS.2.1 q h1 h2, fun q hq => by
      rcases List.mem_append.mp hq with h | h
      · exact hS.2.2 q h
      · exact hD _ (hLL q h)⟩ ⟨hL.1, hL.2.1, hL.2.2.1, fun i v hv => by
      rw [cv_in (hlv v (List.mem_of_getElem? hv)) ha]
      exact hL.2.2.2 i v hv⟩
  have e3 : rest.map (ga_cv ad1) = rest.map (ga_cv ad) := List.map_congr_left (fun v hv => cv_in (hrs v hv) ha)
  rw [e3] at hw2
  obtain ⟨t2, a1, b1⟩ := hw2 T' rfl X'
  exact ⟨t2, stp t2 a1, b1⟩
theorem ga_RtA.jp {ret : Option FieldType} {r : Option gaV} {K0 K1 K2 : gaK} {M1 : gaM} {ad0 ad1 : Nat → Nat} {mc ms : Nat} (h : ga_RtA X ret r K2 M1 K0 ad0 (c + mc) (d + ms)) (hs : ∀ id, K0 id ≠ none → ga_K X id ≠ none) (ha : ∀ id, ga_K X id ≠ none → ad1 id = ga_ad X id) : ga_RtA (ga_jp X ad1 K1 mc ms) ret r K2 M1 K0 ad0 c d := by
  obtain ⟨p, l, e, R, s, m, args, below, meth, c0, D, E, A, nL, cells, slots, Q, ad, K⟩ := X
  obtain ⟨h1, h2, h3, h4⟩ := h
  refine ⟨h1, h2, ?_, fun i hi => ?_⟩
  · rw [h3, show cells + (c + mc) = cells + mc + c by omega, show slots + (d + ms) = slots + ms + d by omega]
  · rw [ha i (hs i hi)]
    exact h4 i hi
theorem ga_jp_K {ad1 : Nat → Nat} {K1 : gaK} {mc ms : Nat} : ga_K (ga_jp X ad1 K1 mc ms) = K1 := by
  obtain ⟨p, l, e, R, s, m, args, below, meth, c0, D, E, A, nL, cells, slots, Q, ad, K⟩ := X
  show K1 = _
  exact (show K1 = K1 from rfl)
theorem ga_jp_nm {ad1 : Nat → Nat} {K1 : gaK} {mc ms : Nat} : ga_nm (ga_jp X ad1 K1 mc ms) = ga_nm X := by
  obtain ⟨p, l, e, R, s, m, args, below, meth, c0, D, E, A, nL, cells, slots, Q, ad, K⟩ := X
  show meth.name = _
  exact (show meth.name = meth.name from rfl)
end AC

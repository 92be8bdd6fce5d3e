/-! ===== the machine: methods that make cells ===== -/
def ga_DA (ad : Nat → Nat) (K : gaK) (sz : Nat) : Nat → Prop := fun q => ga_D ad K q ∨ sz ≤ q
def ga_QA (D : va_G) (E : Nat → ClassId) (ad : Nat → Nat) (K K1 : gaK) (r : Option gaV) (M1 : gaM) (sz : Nat) : Array Value → State → Outcome → State → Prop := fun _ st oc t => ∃ ad1 : Nat → Nat, (∀ id, K id ≠ none → ad1 id = ad id) ∧ oc = .returned (r.map (ga_cv ad1)) ∧ ga_R D E ad1 K1 M1 t.heap ∧ va_K D gaT (gaA E) t ∧ va_F (ga_DA ad K sz) st t
def ga_rmA (dp mc ms : Nat) : Room := { frames := dp, cells := mc, slots := ms, locals := 64 * dp }
/-- a contract with new cells: from K, M to K1, M1 -/
def ga_MetA (y : MethodName) (cc : ByteArray) (maxL : Nat) (ret : Option FieldType) (dp mc ms : Nat) (K : gaK) (M : gaM) (as : List gaV) (r : Option gaV) (K1 : gaK) (M1 : gaM) : Prop :=
  ∀ (l : Launch) (D : va_G) (E : Nat → ClassId) (ad : Nat → Nat) (sz : Nat), Met l y (.code y cc maxL ret :: gaTb) (ga_rmA dp mc ms) (va_Pc (as.map (ga_cv ad)) (fun U => U.heap.size = sz ∧ ga_R D E ad K M U.heap ∧ va_K D gaT (gaA E) U)) (ga_QA D E ad K K1 r M1 sz) mc ms (ga_DA ad K sz)
-- what the end of such a method needs: the first K and ad, the end's K and M
def ga_RtA (X : gaX) (ret : Option FieldType) (r : Option gaV) (K1 : gaK) (M1 : gaM) (K0 : gaK) (ad0 : Nat → Nat) (c d : Nat) : Prop := match X with
  | (p, l, e, R, s, m, args, below, meth, c0, D, E, A, nL, cells, slots, Q, ad, K) => meth.sig.returnType = ret ∧ A = ga_DA ad0 K0 s.heap.size ∧ Q = MQ below (ga_QA D E ad0 K0 K1 r M1 s.heap.size) args s (cells + c) (slots + d) A ∧ ∀ id, K0 id ≠ none → ad id = ad0 id
theorem ga_metA {y : MethodName} {cc : ByteArray} {maxL : Nat} {ret : Option FieldType} {dp mc ms : Nat} {K K1 : gaK} {M M1 : gaM} {as : List gaV} {r : Option gaV} {own : String} (hy : plainName y.cls = true) (ho : y.cls = own) (hn : as.length ≤ maxL) (body : ∀ (X : gaX) (ad : Nat → Nat), ga_CA X cc own dp mc ms → ga_K X = K → ga_nm X = y.name → ga_RtA X ret r K1 M1 K ad mc ms → ga_W X M 0 (as.map some ++ List.replicate (maxL - as.length) none) []) : ga_MetA y cc maxL ret dp mc ms K M as r K1 M1 := by
  subst ho
  intro l D E ad sz
  refine Met.ofW (cc := cc) (maxL := maxL) (ret := ret) hy rfl ?_
  intro p e s m args below meth c s₁ B hml hv
  obtain ⟨rfl, hsz, hR, hKK⟩ := hv
  subst hsz
  have hts := atoms_spec (ws := .code y cc maxL ret :: gaTb) B.pre
  have hown : s.vm.findClass y.cls = some m.cls := findClass_of_methodNamed B.named
  have hl := lv_entry (as.map (ga_cv ad)) (n := maxL) (by rw [ga_len]; exact hn)
  have hnm : meth.name = y.name := (name_of_methodNamed B.named B.method).1
  rw [lg_entry_eq]
  exact body (p, l, e, _, s, m, _, below, meth, c, D, E, ga_DA ad K s.heap.size, maxL, 0, 0, _, ad, K) ad ⟨⟨B.exec, B.bytes, hml, hown, fun w h => hts w (List.mem_cons_of_mem _ h), hKK, B.notSynchronized, fun id sk h1 h2 => Or.inl ⟨id, sk, h1, h2, rfl⟩, Nat.le_refl dp, Nat.le_refl (64 * dp), Nat.zero_le _, Nat.zero_le _⟩, fun q hq => Or.inr hq, by rw [Nat.zero_add]; exact Nat.le_refl mc, by rw [Nat.zero_add]; exact Nat.le_refl ms⟩ rfl hnm ⟨B.returns, rfl, by rw [Nat.zero_add, Nat.zero_add], fun _ _ => rfl⟩ s.heap [] _ hR va_S.rf (ga_L.of hn hl)
section AC
variable {X : gaX} {cc : ByteArray} {own : String} {dp c d : Nat} {M : gaM} {pc pc' : Nat} {lv : List (Option gaV)} {st : List gaV}
theorem ga_RtA.up {ret : Option FieldType} {r : Option gaV} {K1 K0 : gaK} {M1 : gaM} {ad0 : Nat → Nat} {id a N : Nat} {sk : gaS} (h : ga_RtA X ret r K1 M1 K0 ad0 (c + 1) (d + N)) (hf : K0 id = none) : ga_RtA (ga_up X id a sk N) ret r K1 M1 K0 ad0 c d := by
  obtain ⟨p, l, e, R, s, m, args, below, meth, c0, D, E, A, nL, cells, slots, Q, ad, K⟩ := X
  obtain ⟨h1, h2, h3, h4⟩ := h
  refine ⟨h1, h2, ?_, fun i hi => ?_⟩
  · rw [h3, show cells + (c + 1) = cells + 1 + c by omega, show slots + (d + N) = slots + N + d by omega]
  · show adu ad id a i = ad0 i
    rw [adu_ne (fun e => hi (by rw [e]; exact hf))]
    exact h4 i hi
theorem ga_RtA.rk {ret : Option FieldType} {r : Option gaV} {K1 K0 : gaK} {M1 : gaM} {ad0 : Nat → Nat} {id : Nat} {sk : gaS} (h : ga_RtA X ret r K1 M1 K0 ad0 c d) : ga_RtA (ga_rk X id sk) ret r K1 M1 K0 ad0 c d := by
  obtain ⟨p, l, e, R, s, m, args, below, meth, c0, D, E, A, nL, cells, slots, Q, ad, K⟩ := X
  obtain ⟨h1, h2, h3, h4⟩ := h
  exact ⟨h1, h2, h3, h4⟩
/-- the end of a constructor -/
theorem ga_vretA {K1 K0 : gaK} {ad0 : Nat → Nat} (C : ga_CA X cc own dp 0 0) (T : ga_RtA X none none K1 M K0 ad0 0 0) (hs : ∀ (id : Nat) (sk : gaS), K1 id = some sk → ga_K X id = some sk) (dd : gd cc pc .return_ 1 pc') : ga_W X M pc lv [] := by
  obtain ⟨p, l, e, R, s, m, args, below, meth, c0, D, E, A, nL, cells, slots, Q, ad, K⟩ := X
  obtain ⟨⟨hx, hb, -, hown, hts, hKK, hlk, -⟩, -⟩ := C
  obtain ⟨hr, hA, hQ, had⟩ := T
  obtain ⟨dd, rfl⟩ := dd
  have hs2 : ∀ (id : Nat) (sk : gaS), K1 id = some sk → K id = some sk := hs
  clear hs
  subst hQ
  subst hA
  intro H locs ls hR hS hL
  have hR1 : ga_R D E ad K1 M H := ⟨fun id sk h => hR.1 id sk (hs2 id sk h), fun i j hi hj e => by
    obtain ⟨si, h1⟩ := Option.ne_none_iff_exists'.mp hi
    obtain ⟨sj, h2⟩ := Option.ne_none_iff_exists'.mp hj
    exact hR.2 i j (by rw [hs2 i si h1]; exact fun q => by cases q) (by rw [hs2 j sj h2]; exact fun q => by cases q) e⟩
  exact W.vret hx hb hr (fun t ht hW => ⟨ad, had, rfl, by rw [ht]; exact hR1, va_K.moved hW.alike hKK, hS.F ht⟩) hS.2.2 dd hlk
/-- Object's own constructor does nothing -/
theorem ga_oinit {idx id : Nat} (C : ga_CA X cc own dp c d) (dd : gd cc pc (.invokespecial idx) 3 pc') (hl : Cond.methodLink own idx objectInit ∈ gaTb) (hi : Cond.instanceMethod objectInit ∈ gaTb) (hc : Cond.code objectInit ⟨#[0xb1]⟩ 1 none ∈ gaTb) (h1 : 1 ≤ dp) (hst : st.length ≤ 8) (kk : ga_W X M pc' lv st) : ga_W X M pc lv (.inr (some id) :: st) := by
  obtain ⟨p, l, e, R, s, m, args, below, meth, c0, D, E, A, nL, cells, slots, Q, ad, K⟩ := X
  obtain ⟨⟨hx, hb, hml, hown, hts, hKK, hlk, hA, hf1, hf2, hf3, hf4⟩, hnew, hr1, hr2⟩ := C
  obtain ⟨dd, rfl⟩ := dd
  intro H locs ls hR hS hL
  have := ga_lenI (ad := ad) hst
  exact W.objInit hx hb hown (hts _ hl) (hts _ hi) (hts _ hc) rfl (by rw [hml]; exact hL.1) rfl dd (by omega) (by show 2 * 0 + _ + 12 ≤ R.locals; omega) (kk H locs ls hR hS hL)
end AC

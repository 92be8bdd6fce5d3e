/-! ===== the machine: new cells ===== -/
def adu (ad : Nat → Nat) (id a : Nat) : Nat → Nat := fun x => if x = id then a else ad x
def Kup (K : gaK) (id : Nat) (sk : gaS) : gaK := fun x => if x = id then some sk else K x
theorem adu_self {ad : Nat → Nat} {id a : Nat} : adu ad id a id = a := if_pos rfl
theorem adu_ne {ad : Nat → Nat} {id a x : Nat} (h : x ≠ id) : adu ad id a x = ad x := if_neg h
theorem Kup_self {K : gaK} {id : Nat} {sk : gaS} : Kup K id sk id = some sk := if_pos rfl
theorem Kup_ne {K : gaK} {id x : Nat} {sk : gaS} (h : x ≠ id) : Kup K id sk x = K x := if_neg h
-- a skeleton names a cell
def mnt (sk : gaS) (id : Nat) : Prop := match sk with
  | .inl _ => False
  | .inr (.inl (_, rf)) => ∃ k, rf k = some (some id)
  | .inr (.inr (_, n, g)) => ∃ j, j < n ∧ g j = some id
theorem arrV_ext {cI : ClassId} {N : Nat} {f g : Nat → Value} (h : ∀ j, j < N → f j = g j) : arrV cI N f = arrV cI N g := by
  unfold arrV
  congr 1
  exact congrArg Array.ofFn (funext fun j => h j.val j.isLt)
abbrev pin (id : Nat) : Prop := 97 ≤ id ∧ id ≤ 99
def frh (K : gaK) (id : Nat) : Prop := K id = none ∧ (∀ (i : Nat) (sk : gaS), K i = some sk → ¬ mnt sk id) ∧ ¬ pin id
def frv (id : Nat) (lv : List (Option gaV)) (st : List gaV) : Prop := (∀ v : gaV, some v ∈ lv → v ≠ .inr (some id)) ∧ ∀ v ∈ st, v ≠ .inr (some id)
theorem cv_adu {ad : Nat → Nat} {id a : Nat} {v : gaV} (h : v ≠ .inr (some id)) : ga_cv (adu ad id a) v = ga_cv ad v := by
  rcases v with x | r
  · rfl
  · cases r with
    | none => rfl
    | some r =>
      show va_rf (some (adu ad id a r)) = va_rf (some (ad r))
      rw [adu_ne (fun e => h (by rw [e]))]
theorem ga_At.adu {D : va_G} {E : Nat → ClassId} {ad : Nat → Nat} {M : gaM} {H : Heap} {i id a : Nat} {sk : gaS} (h : ga_At D E ad M H i sk) (hi : i ≠ id) (hm : ¬ mnt sk id) : ga_At D E (adu ad id a) M H i sk := by
  rcases sk with n | ⟨ci, rf⟩ | ⟨t, n, g⟩
  · show H[_root_.Jvm.Pilot.CGreenHoursLaw_law_r9412_d7ccee.adu ad id a i]? = _
    rw [adu_ne hi]; exact h
  · obtain ⟨q, h1, h2⟩ := h
    refine ⟨q, h1, ?_⟩
    have e : ga_F (_root_.Jvm.Pilot.CGreenHoursLaw_law_r9412_d7ccee.adu ad id a) M i rf = ga_F ad M i rf := by
      funext k
      unfold ga_F
      cases hr : rf k with
      | none => rfl
      | some r =>
        cases r with
        | none => rfl
        | some r =>
          show va_rf (some _) = va_rf (some _)
          rw [adu_ne (fun e => hm ⟨k, by rw [hr, e]⟩)]
    rw [e, adu_ne hi]
    exact h2
  · show H[_root_.Jvm.Pilot.CGreenHoursLaw_law_r9412_d7ccee.adu ad id a i]? = some (arrV (E t) n (ga_G _ M i t g))
    have e : arrV (E t) n (ga_G (_root_.Jvm.Pilot.CGreenHoursLaw_law_r9412_d7ccee.adu ad id a) M i t g) = arrV (E t) n (ga_G ad M i t g) := by
      refine arrV_ext (fun k hk => ?_)
      unfold ga_G
      cases hr : g k with
      | none => rfl
      | some r =>
        show (if t = 1 then _ else va_rf (some _)) = (if t = 1 then _ else va_rf (some _))
        rw [adu_ne (fun e => hm ⟨k, hk, by rw [hr, e]⟩)]
    rw [e, adu_ne hi]
    exact h
theorem ga_At.lt {D : va_G} {E : Nat → ClassId} {ad : Nat → Nat} {M : gaM} {H : Heap} {i : Nat} {sk : gaS} (h : ga_At D E ad M H i sk) : ad i < H.size := by
  rcases sk with n | ⟨ci, rf⟩ | ⟨t, n, g⟩
  · exact (Array.getElem?_eq_some_iff.mp (show H[ad i]? = some _ from h)).1
  · obtain ⟨q, -, cell, q1, -⟩ := h
    exact (Array.getElem?_eq_some_iff.mp q1).1
  · exact (Array.getElem?_eq_some_iff.mp (show H[ad i]? = some _ from h)).1
theorem ga_R.new {D : va_G} {E : Nat → ClassId} {ad : Nat → Nat} {K : gaK} {M M1 : gaM} {H H1 : Heap} {id : Nat} {sk : gaS} (h : ga_R D E ad K M H) (hf : frh K id) (hH : ∀ q : Nat, q < H.size → H1[q]? = H[q]?) (hM : ∀ j : Nat, j ≠ id → M1 j = M j) (ha : ga_At D E (adu ad id H.size) M1 H1 id sk) : ga_R D E (adu ad id H.size) (Kup K id sk) M1 H1 := by
  have old : ∀ (j : Nat) (sj : gaS), j ≠ id → Kup K id sk j = some sj → K j = some sj := fun j sj hj e => by rw [Kup_ne hj] at e; exact e
  refine ⟨fun j sj hj => ?_, fun i j hi hj e => ?_⟩
  · by_cases c : j = id
    · subst c
      rw [Kup_self] at hj
      cases hj
      exact ha
    · have hj' := old j sj c hj
      have h1 := h.1 j sj hj'
      exact ((h1.kept (hH _ h1.lt) (hM j c)).adu c (hf.2.1 j sj hj'))
  · by_cases c : i = id
    · by_cases d : j = id
      · rw [c, d]
      · rw [Kup_ne d] at hj
        obtain ⟨sj, hsj⟩ := Option.ne_none_iff_exists'.mp hj
        have := (h.1 j sj hsj).lt
        rw [c, adu_self, adu_ne d] at e
        omega
    · rw [Kup_ne c] at hi
      obtain ⟨si, hsi⟩ := Option.ne_none_iff_exists'.mp hi
      have := (h.1 i si hsi).lt
      by_cases d : j = id
      · rw [d, adu_self, adu_ne c] at e
        omega
      · rw [Kup_ne d] at hj
        rw [adu_ne c, adu_ne d] at e
        exact h.2 i j hi hj e
theorem nat32 {N : Nat} (hN : N ≤ 100000) : ¬ Int32.ofInt (N : Int) < 0 ∧ (Int32.ofInt (N : Int)).toNatClampNeg = N := by
  constructor
  · intro q
    have := Int32.lt_iff_toInt_lt.mp q
    rw [Int32.toInt_ofInt_of_le (by omega) (by omega)] at this
    have h0 : (0 : Int32).toInt = 0 := rfl
    omega
  · show (Int32.ofInt (N : Int)).toInt.toNat = N
    rw [Int32.toInt_ofInt_of_le (by omega) (by omega)]
    rfl
def ga_jp (X : gaX) (ad1 : Nat → Nat) (K1 : gaK) (mc ms : Nat) : gaX := match X with
  | (p, l, e, R, s, m, args, below, meth, c, D, E, A, nL, cells, slots, Q, ad, K) => (p, l, e, R, s, m, args, below, meth, c, D, E, A, nL, cells + mc, slots + ms, Q, ad1, K1)
def ga_ad (X : gaX) : Nat → Nat := match X with
  | (_, _, _, _, _, _, _, _, _, _, _, _, _, _, _, _, _, ad, _) => ad
def ga_nm (X : gaX) : String := match X with
  | (_, _, _, _, _, _, _, _, meth, _, _, _, _, _, _, _, _, _, _) => meth.name
theorem ga_jp_K {X : gaX} {ad1 : Nat → Nat} {K1 : gaK} {mc ms : Nat} : ga_K (ga_jp X ad1 K1 mc ms) = K1 := by
  obtain ⟨p, l, e, R, s, m, args, below, meth, c0, D, E, A, nL, cells, slots, Q, ad, K⟩ := X
  show K1 = _
  exact (show K1 = K1 from rfl)
theorem ga_jp_nm {X : gaX} {ad1 : Nat → Nat} {K1 : gaK} {mc ms : Nat} : ga_nm (ga_jp X ad1 K1 mc ms) = ga_nm X := by
  obtain ⟨p, l, e, R, s, m, args, below, meth, c0, D, E, A, nL, cells, slots, Q, ad, K⟩ := X
  show meth.name = _
  exact (show meth.name = meth.name from rfl)
-- what may be written: all but the JDK's own array (99)
def ga_wA (id : Nat) (sk : gaS) : Prop := ga_wr sk ∨ id ≠ 99
-- what holds of the tables beside: 97 = the class object of Object[], 98 = the script, 99 = the JDK's empty array
def ga_SF (ad : Nat → Nat) (A : Nat → Prop) (U : State) (H : Heap) : Prop := (Cond.arrayOver (.array .int)).before #[] U = true ∧ va_AO "java/lang/Object" U ∧ va_Mi "[Ljava/lang/Object;" (ad 97) U ∧ va_Dc U ∧ va_Nw (.castable RX4 "java/lang/Object") U ∧ va_Z RJx4a65c "DEFAULTCAPACITY_EMPTY_ELEMENTDATA" "[Ljava/lang/Object;" (.ref (ad 99)) A U H ∧ va_T (.object "java/lang/Object") (ad 99) 0 (fun _ => .null) A U H
theorem ga_SF.ad {ad ad1 : Nat → Nat} {A : Nat → Prop} {U : State} {H : Heap} (h : ga_SF ad A U H) (h1 : ∀ id, pin id → ad1 id = ad id) : ga_SF ad1 A U H := by
  unfold ga_SF at h ⊢
  rw [h1 97 (by decide), h1 99 (by decide)]
  exact h
theorem ga_SF.moved {ad : Nat → Nat} {A : Nat → Prop} {u U : State} {H : Heap} (hvm : u.vm.Alike U.vm) (h : ga_SF ad A u H) : ga_SF ad A U H := by
  obtain ⟨h1, h2, h3, h4, h5, h6, h7⟩ := h
  exact ⟨Jvm.Stand.arrayOver_alikeB hvm h1, va_AO.moved hvm h2, va_Mi.moved hvm h3, va_Dc.moved hvm h4, va_tabs rfl (rfl : (u.setVm U.vm).vm = U.vm) (by rw [Cond.castable_setVm hvm]; exact h5), va_Z.moved hvm h6, va_T.moved hvm h7⟩
theorem ga_SF.kept {ad : Nat → Nat} {A B : Nat → Prop} {U : State} {H H1 : Heap} (h : ga_SF ad A U H) (hq : ∀ a : Nat, a < H.size → ¬ A a → H1[a]? = H[a]?) (hB : ∀ q, B q → A q) : ga_SF ad B U H1 := by
  obtain ⟨h1, h2, h3, h4, h5, h6, cell, t1, t2, t3, t4, t5, t6, t7⟩ := h
  exact ⟨h1, h2, h3, h4, h5, (h6.kept hq).narrow hB, cell, by rw [hq _ (Array.getElem?_eq_some_iff.mp t1).1 t7]; exact t1, t2, t3, t4, t5, t6, fun z => t7 (hB _ z)⟩
-- the method may write what is new; so much room is left
def ga_CA (X : gaX) (cc : ByteArray) (own : String) (dp c d : Nat) : Prop := ga_C X cc own dp ∧ match X with
  | (_, _, _, R, s, _, _, _, _, _, _, _, A, _, cells, slots, _, ad, K) => (∀ q : Nat, s.heap.size ≤ q → A q) ∧ cells + c ≤ R.cells ∧ slots + d ≤ R.slots ∧ (∀ (id : Nat) (sk : gaS), K id = some sk → ga_wA id sk → A (ad id)) ∧ ga_SF ad A s s.heap
-- what the walk's end asks (T) stays over steps that make cells
def ga_TS (T : gaX → gaK → Nat → Nat → Prop) : Prop := ∀ (X : gaX) (K K1 : gaK) (ad1 : Nat → Nat) (c d mc ms : Nat), T X K (c + mc) (d + ms) → (∀ id, K id ≠ none ∨ pin id → ad1 id = ga_ad X id) → (∀ id, K id ≠ none → K1 id ≠ none) → T (ga_jp X ad1 K1 mc ms) K1 c d
def ga_Z (T : gaX → gaK → Nat → Nat → Prop) (X : gaX) (cc : ByteArray) (own : String) (dp : Nat) (nm : String) (c d : Nat) (K : gaK) : Prop := ga_CA X cc own dp c d ∧ ga_K X = K ∧ ga_nm X = nm ∧ T X K c d ∧ ga_TS T
theorem ga_Z.jp {T : gaX → gaK → Nat → Nat → Prop} {X : gaX} {cc : ByteArray} {own nm : String} {dp c d mc ms : Nat} {K K1 : gaK} {ad1 : Nat → Nat} (Z : ga_Z T X cc own dp nm (c + mc) (d + ms) K) (ha : ∀ id, K id ≠ none ∨ pin id → ad1 id = ga_ad X id) (hd : ∀ id, K id ≠ none → K1 id ≠ none) (C : ga_CA (ga_jp X ad1 K1 mc ms) cc own dp c d) : ga_Z T (ga_jp X ad1 K1 mc ms) cc own dp nm c d K1 :=
  ⟨C, ga_jp_K, ga_jp_nm.trans Z.2.2.1, Z.2.2.2.2 _ _ _ _ _ _ _ _ Z.2.2.2.1 ha hd, Z.2.2.2.2⟩
theorem ga_Z.C {T : gaX → gaK → Nat → Nat → Prop} {X : gaX} {cc : ByteArray} {own nm : String} {dp c d : Nat} {K : gaK} (Z : ga_Z T X cc own dp nm c d K) : ga_C X cc own dp := Z.1.1
theorem ga_Z.K {T : gaX → gaK → Nat → Nat → Prop} {X : gaX} {cc : ByteArray} {own nm : String} {dp c d : Nat} {K : gaK} (Z : ga_Z T X cc own dp nm c d K) : ga_K X = K := Z.2.1
theorem Kup_dom {K : gaK} {id : Nat} {sk : gaS} : ∀ i, K i ≠ none → Kup K id sk i ≠ none := fun i h => by
  by_cases e : i = id
  · rw [e, Kup_self]; exact fun q => by cases q
  · rw [Kup_ne e]; exact h
theorem adu_dom {ad : Nat → Nat} {K : gaK} {id a : Nat} (hf : frh K id) : ∀ i, K i ≠ none ∨ pin i → adu ad id a i = ad i := fun i h => adu_ne (fun e => by
  rcases h with h | h
  · exact h (by rw [e]; exact hf.1)
  · exact hf.2.2 (by rw [← e]; exact h))
theorem ga_L.adu {ad : Nat → Nat} {lv : List (Option gaV)} {nL id a : Nat} {ls : Array Slot} {st : List gaV} (h : ga_L ad lv nL ls) (hf : frv id lv st) : ga_L (adu ad id a) lv nL ls := ⟨h.1, h.2.1, h.2.2.1, fun i v hv => by
  rw [cv_adu (hf.1 v (List.mem_of_getElem? hv))]
  exact h.2.2.2 i v hv⟩
theorem st_adu {ad : Nat → Nat} {id a : Nat} {lv : List (Option gaV)} {st : List gaV} (hf : frv id lv st) : st.map (ga_cv (adu ad id a)) = st.map (ga_cv ad) := List.map_congr_left (fun v hv => cv_adu (hf.2 v hv))
-- a cell more: the common end of all rules that make one
theorem ga_born {T : gaX → gaK → Nat → Nat → Prop} {cc : ByteArray} {own nm : String} {dp cN d N : Nat} {K : gaK} {M M1 : gaM} {pc' id : Nat} {lv : List (Option gaV)} {st : List gaV} {sk : gaS} {p : Program} {l : Launch} {e : Env} {R : Room} {s : State} {m : MethodId} {args : Array Value} {below : List Frame} {meth : Method} {c : Code} {D : va_G} {E : Nat → ClassId} {A : Nat → Prop} {nL cells slots : Nat} {Q : State → Prop} {ad : Nat → Nat} {H H1 : Heap} {locs : List Loc} {ls : Array Slot}
    (Z : ga_Z T (p, l, e, R, s, m, args, below, meth, c, D, E, A, nL, cells, slots, Q, ad, K) cc own dp nm (cN + 1) (d + N) K) (hf : frh K id) (hv : frv id lv st) (hR : ga_R D E ad K M H) (hS : va_S A s.heap H locs) (hL : ga_L ad lv nL ls) (o1 : ∀ q : Nat, q < H.size → H1[q]? = H[q]?) (z1 : H1.size = H.size + 1) (hM1 : ∀ j : Nat, j ≠ id → M1 j = M j) (hat : ga_At D E (adu ad id H.size) M1 H1 id sk)
    (kk : ∀ X', ga_Z T X' cc own dp nm cN d (Kup K id sk) → ga_W X' M1 pc' lv (.inr (some id) :: st)) : W p l e R s m args below meth c H1 locs (cells + 1) (slots + N) Q (F0 m pc' ls (.ref H.size :: st.map (ga_cv ad))) := by
  have Z0 := Z
  obtain ⟨⟨⟨hx, hb, hml, hown, hts, hKK, hlk, hA, hf1, hf2, hf3, hf4⟩, hnew, hr1, hr2, hAA, hSF⟩, -⟩ := Z0
  have hR1 := hR.new (M1 := M1) hf o1 hM1 hat
  have hA1 : ∀ (i : Nat) (sj : gaS), Kup K id sk i = some sj → (K i = some sj → A (ad i)) → A (adu ad id H.size i) := fun i sj h1 h2 => by
    by_cases ci : i = id
    · rw [ci, adu_self]
      exact hnew _ hS.1
    · rw [Kup_ne ci] at h1
      rw [adu_ne ci]
      exact h2 h1
  have hw := kk _ (Z.jp (mc := 1) (ms := N) (ad1 := adu ad id H.size) (K1 := Kup K id sk) (adu_dom hf) Kup_dom ⟨⟨hx, hb, hml, hown, hts, hKK, hlk, fun i sj h1 h2 => hA1 i sj h1 (fun q => hA i sj q h2), hf1, hf2, by omega, by omega⟩, hnew, by omega, by omega, fun i sj h1 h2 => hA1 i sj h1 (fun q => hAA i sj q h2), hSF.ad (fun i hi => adu_dom (ad := ad) (a := H.size) hf i (.inr hi))⟩) H1 locs ls hR1 ⟨Nat.le_trans hS.1 (by omega), fun x h1 h2 => (o1 x (Nat.lt_of_lt_of_le h1 hS.1)).trans (hS.2.1 x h1 h2), hS.2.2⟩ (hL.adu hv)
  rw [List.map_cons, st_adu hv] at hw
  have e2 : ga_cv (adu ad id H.size) (.inr (some id)) = .ref H.size := by
    show va_rf (some (adu ad id H.size id)) = _
    rw [adu_self]
    rfl
  rw [e2] at hw
  exact hw
section AL
variable {T : gaX → gaK → Nat → Nat → Prop} {X : gaX} {cc : ByteArray} {own nm : String} {dp c d : Nat} {K : gaK} {M : gaM} {pc pc' : Nat} {lv : List (Option gaV)} {st : List gaV}
theorem z_new {idx ci id N : Nat} {q : vw_C} {rf : Nat → Option (Option Nat)} (Z : ga_Z T X cc own dp nm (c + 1) (d + N) K) (dd : gd cc pc (.new idx) 3 pc') (hq : gaT[ci]? = some q) (hN : q.2.2 = N) (hcl : Cond.classLink own idx q.1 ∈ gaTb) (hinst : Cond.instantiable q.1 N ∈ gaTb) (hini : Cond.initialized q.1 ∈ gaTb) (hf : frh K id) (hv : frv id lv st) (hrf : ∀ (k : Nat), k < N → ∀ (ad : Nat → Nat), defaultValue (gaTy ci k) = ga_F ad (setr M id (fun _ => 0)) id rf k)
    (kk : ∀ X', ga_Z T X' cc own dp nm c d (Kup K id (.inr (.inl (ci, rf)))) → ga_W X' (setr M id (fun _ => 0)) pc' lv (.inr (some id) :: st)) : ga_W X M pc lv st := by
  obtain ⟨p, l, e, R, s, m, args, below, meth, c0, D, E, A, nL, cells, slots, Q, ad, K'⟩ := X
  have Z0 := Z
  obtain ⟨⟨⟨hx, hb, hml, hown, hts, hKK, hlk, hA, hf1, hf2, hf3, hf4⟩, hnew, hr1, hr2, hAA, hSF⟩, hK, -⟩ := Z
  have hK : K' = K := hK
  subst hK
  obtain ⟨dd, rfl⟩ := dd
  subst hN
  intro H locs ls hR hS hL
  have hKn := hKK.1 ci q hq
  refine W.newcK hx hb hown (hts _ hcl) (hts _ hinst) (hts _ hini) rfl dd (by omega) (by omega) hKn.2.1 rfl fun H1 kC hkC e1 z1 o1 => ?_
  refine ga_born Z0 hf hv hR hS hL o1 z1 (fun j hj => setr_ne hj) ?_ kk
  refine ⟨q, hq, ?_⟩
  rw [adu_self]
  exact (u_born (gaTy ci) hts (gaT_in ci q hq) hKn hkC e1 (gaT_ty ci q hq)).to (fun j hj => hrf j hj _)
/-- newarray of ints -/
theorem z_newi {id N : Nat} {n : Int} (Z : ga_Z T X cc own dp nm (c + 1) (d + N) K) (dd : gd cc pc (.newarray .int) 2 pc') (hn : n = (N : Int)) (hN : N ≤ 100000) (harr : Cond.arrayClass .int ∈ gaTb) (hf : frh K id) (hv : frv id lv st)
    (kk : ∀ X', ga_Z T X' cc own dp nm c d (Kup K id (.inl N)) → ga_W X' (setr M id (fun _ => 0)) pc' lv (.inr (some id) :: st)) : ga_W X M pc lv (.inl n :: st) := by
  obtain ⟨p, l, e, R, s, m, args, below, meth, c0, D, E, A, nL, cells, slots, Q, ad, K'⟩ := X
  have Z0 := Z
  obtain ⟨⟨⟨hx, hb, hml, hown, hts, hKK, hlk, hA, hf1, hf2, hf3, hf4⟩, hnew, hr1, hr2, hAA, hSF⟩, hK, -⟩ := Z
  have hK : K' = K := hK
  subst hK
  obtain ⟨dd, rfl⟩ := dd
  subst hn
  obtain ⟨hnn, hnc⟩ := nat32 hN
  intro H locs ls hR hS hL
  have hE : s.vm.findClass ("[" ++ (FieldType.int).toString) = some (E 0) := (hKK.2 0 (E 0, .int) rfl).2
  refine va_newaK (atype := .int) hx hb (hts _ harr) rfl dd rfl hnn hnc (by show N * 4 ≤ _; omega) (by omega) (by omega) rfl fun H1 cA e1 z1 o1 hAr hNm => ?_
  have hcA : cA = E 0 := Option.some.inj (hNm.symm.trans hE)
  refine ga_born Z0 hf hv hR hS hL o1 z1 (fun j hj => setr_ne hj) ?_ kk
  show H1[adu ad id H.size id]? = some (arrV (E 0) N (fun j => .int (Int32.ofInt (setr M id (fun _ => 0) id j))))
  rw [adu_self, setr_self, ← hcA]
  exact e1
/-- newarray of booleans -/
theorem z_newz {id N : Nat} {n : Int} {g : Nat → Option Nat} (Z : ga_Z T X cc own dp nm (c + 1) (d + N) K) (dd : gd cc pc (.newarray .boolean) 2 pc') (hn : n = (N : Int)) (hN : N ≤ 100000) (harr : Cond.arrayClass .boolean ∈ gaTb) (hf : frh K id) (hv : frv id lv st)
    (kk : ∀ X', ga_Z T X' cc own dp nm c d (Kup K id (.inr (.inr (1, N, g)))) → ga_W X' (setr M id (fun _ => 0)) pc' lv (.inr (some id) :: st)) : ga_W X M pc lv (.inl n :: st) := by
  obtain ⟨p, l, e, R, s, m, args, below, meth, c0, D, E, A, nL, cells, slots, Q, ad, K'⟩ := X
  have Z0 := Z
  obtain ⟨⟨⟨hx, hb, hml, hown, hts, hKK, hlk, hA, hf1, hf2, hf3, hf4⟩, hnew, hr1, hr2, hAA, hSF⟩, hK, -⟩ := Z
  have hK : K' = K := hK
  subst hK
  obtain ⟨dd, rfl⟩ := dd
  subst hn
  obtain ⟨hnn, hnc⟩ := nat32 hN
  intro H locs ls hR hS hL
  have hE : s.vm.findClass ("[" ++ (FieldType.boolean).toString) = some (E 1) := (hKK.2 1 (E 1, .boolean) rfl).2
  refine va_newaK (atype := .boolean) hx hb (hts _ harr) rfl dd rfl hnn hnc (by show N * 1 ≤ _; omega) (by omega) (by omega) rfl fun H1 cA e1 z1 o1 hAr hNm => ?_
  have hcA : cA = E 1 := Option.some.inj (hNm.symm.trans hE)
  refine ga_born Z0 hf hv hR hS hL o1 z1 (fun j hj => setr_ne hj) ?_ kk
  show H1[adu ad id H.size id]? = some (arrV (E 1) N (ga_G (adu ad id H.size) (setr M id (fun _ => 0)) id 1 g))
  have e0 : ga_G (adu ad id H.size) (setr M id (fun _ => 0)) id 1 g = fun _ => .int 0 := by
    funext j
    unfold ga_G
    rw [if_pos rfl, setr_self]
    rfl
  rw [adu_self, e0, ← hcA]
  exact e1
/-- anewarray of Object -/
theorem z_newq {idx id N : Nat} {n : Int} (Z : ga_Z T X cc own dp nm (c + 1) (d + N) K) (dd : gd cc pc (.anewarray idx) 3 pc') (hn : n = (N : Int)) (hN : N ≤ 100000) (hcl : Cond.classLink own idx "java/lang/Object" ∈ gaTb) (hf : frh K id) (hv : frv id lv st)
    (kk : ∀ X', ga_Z T X' cc own dp nm c d (Kup K id (.inr (.inr (3, N, fun _ => none)))) → ga_W X' M pc' lv (.inr (some id) :: st)) : ga_W X M pc lv (.inl n :: st) := by
  obtain ⟨p, l, e, R, s, m, args, below, meth, c0, D, E, A, nL, cells, slots, Q, ad, K'⟩ := X
  have Z0 := Z
  obtain ⟨⟨⟨hx, hb, hml, hown, hts, hKK, hlk, hA, hf1, hf2, hf3, hf4⟩, hnew, hr1, hr2, hAA, hSF⟩, hK, -⟩ := Z
  have hK : K' = K := hK
  subst hK
  obtain ⟨dd, rfl⟩ := dd
  subst hn
  obtain ⟨hnn, hnc⟩ := nat32 hN
  intro H locs ls hR hS hL
  have hE := va_nmO (hKK.2 3 (E 3, .object "java/lang/Object") rfl).2 rfl
  refine W.anew hx hb hown (hts _ hcl) (va_AO.use hSF.2.1) rfl dd rfl hnn (by rw [hnc]; omega) (by omega) (by rw [hnc]; omega) fun cA kA comp f1 f2 f3 f4 => ?_
  rw [hnc]
  generalize hH1 : H.push ({ cls := cA, slots := Array.replicate N .null, vm := .none } : Cell) = H1
  have z1 : H1.size = H.size + 1 := by rw [← hH1, Array.size_push]
  have e1 : H1[H.size]? = some (arrV cA N (fun _ => .null)) := by rw [← hH1, Array.getElem?_push_size, ← arrV_new]
  have o1 : ∀ q : Nat, q < H.size → H1[q]? = H[q]? := fun q hq => by rw [← hH1, Array.getElem?_push, if_neg (Nat.ne_of_lt hq)]
  have hcA : cA = E 3 := Option.some.inj (f1.symm.trans hE)
  refine ga_born Z0 hf hv hR hS hL o1 z1 (fun _ _ => rfl) ?_ kk
  show H1[adu ad id H.size id]? = some (arrV (E 3) N (ga_G (adu ad id H.size) M id 3 (fun _ => none)))
  have e0 : ga_G (adu ad id H.size) M id 3 (fun _ => none) = fun _ => .null := by
    funext j
    unfold ga_G
    rw [if_neg (by decide)]
    rfl
  rw [adu_self, e0, ← hcA]
  exact e1
end AL

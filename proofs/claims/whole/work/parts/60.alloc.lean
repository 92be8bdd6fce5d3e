/-! ===== the machine: new cells ===== -/
def adu (ad : Nat → Nat) (id a : Nat) : Nat → Nat := fun x => if x = id then a else ad x
def Kup (K : gaK) (id : Nat) (sk : gaS) : gaK := fun x => if x = id then some sk else K x
theorem adu_self {ad : Nat → Nat} {id a : Nat} : adu ad id a id = a := if_pos rfl
theorem adu_ne {ad : Nat → Nat} {id a x : Nat} (h : x ≠ id) : adu ad id a x = ad x := if_neg h
theorem Kup_self {K : gaK} {id : Nat} {sk : gaS} : Kup K id sk id = some sk := if_pos rfl
theorem Kup_ne {K : gaK} {id x : Nat} {sk : gaS} (h : x ≠ id) : Kup K id sk x = K x := if_neg h
-- a skeleton names a cell
def mnt (sk : gaS) (id : Nat) : Prop := match sk with
  | .inl _ => False
  | .inr (.inl (_, rf)) => ∃ k, rf k = some (some id)
  | .inr (.inr (_, n, g)) => ∃ j, j < n ∧ g j = some id
theorem arrV_ext {cI : ClassId} {N : Nat} {f g : Nat → Value} (h : ∀ j, j < N → f j = g j) : arrV cI N f = arrV cI N g := by
  unfold arrV
  congr 1
  exact congrArg Array.ofFn (funext fun j => h j.val j.isLt)
def frh (K : gaK) (id : Nat) : Prop := K id = none ∧ ∀ (i : Nat) (sk : gaS), K i = some sk → ¬ mnt sk id
def frv (id : Nat) (lv : List (Option gaV)) (st : List gaV) : Prop := (∀ v : gaV, some v ∈ lv → v ≠ .inr (some id)) ∧ ∀ v ∈ st, v ≠ .inr (some id)
theorem cv_adu {ad : Nat → Nat} {id a : Nat} {v : gaV} (h : v ≠ .inr (some id)) : ga_cv (adu ad id a) v = ga_cv ad v := by
  rcases v with x | r
  · rfl
  · cases r with
    | none => rfl
    | some r =>
      show va_rf (some (adu ad id a r)) = va_rf (some (ad r))
      rw [adu_ne (fun e => h (by rw [e]))]
theorem ga_At.adu {D : va_G} {E : Nat → ClassId} {ad : Nat → Nat} {M : gaM} {H : Heap} {i id a : Nat} {sk : gaS} (h : ga_At D E ad M H i sk) (hi : i ≠ id) (hm : ¬ mnt sk id) : ga_At D E (adu ad id a) M H i sk := by
  rcases sk with n | ⟨ci, rf⟩ | ⟨t, n, g⟩
  · show H[_root_.Jvm.Pilot.CGreenHoursLaw_law_r9412_d7ccee.adu ad id a i]? = _
    rw [adu_ne hi]; exact h
  · obtain ⟨q, h1, h2⟩ := h
    refine ⟨q, h1, ?_⟩
    have e : ga_F (_root_.Jvm.Pilot.CGreenHoursLaw_law_r9412_d7ccee.adu ad id a) M i rf = ga_F ad M i rf := by
      funext k
      unfold ga_F
      cases hr : rf k with
      | none => rfl
      | some r =>
        cases r with
        | none => rfl
        | some r =>
          show va_rf (some _) = va_rf (some _)
          rw [adu_ne (fun e => hm ⟨k, by rw [hr, e]⟩)]
    rw [e, adu_ne hi]
    exact h2
  · show H[_root_.Jvm.Pilot.CGreenHoursLaw_law_r9412_d7ccee.adu ad id a i]? = some (arrV (E t) n (ga_G _ M i t g))
    have e : arrV (E t) n (ga_G (_root_.Jvm.Pilot.CGreenHoursLaw_law_r9412_d7ccee.adu ad id a) M i t g) = arrV (E t) n (ga_G ad M i t g) := by
      refine arrV_ext (fun k hk => ?_)
      unfold ga_G
      cases hr : g k with
      | none => rfl
      | some r =>
        show (if t = 1 then _ else va_rf (some _)) = (if t = 1 then _ else va_rf (some _))
        rw [adu_ne (fun e => hm ⟨k, hk, by rw [hr, e]⟩)]
    rw [e, adu_ne hi]
    exact h
theorem ga_At.lt {D : va_G} {E : Nat → ClassId} {ad : Nat → Nat} {M : gaM} {H : Heap} {i : Nat} {sk : gaS} (h : ga_At D E ad M H i sk) : ad i < H.size := by
  rcases sk with n | ⟨ci, rf⟩ | ⟨t, n, g⟩
  · exact (Array.getElem?_eq_some_iff.mp (show H[ad i]? = some _ from h)).1
  · obtain ⟨q, -, cell, q1, -⟩ := h
    exact (Array.getElem?_eq_some_iff.mp q1).1
  · exact (Array.getElem?_eq_some_iff.mp (show H[ad i]? = some _ from h)).1
theorem ga_R.new {D : va_G} {E : Nat → ClassId} {ad : Nat → Nat} {K : gaK} {M M1 : gaM} {H H1 : Heap} {id : Nat} {sk : gaS} (h : ga_R D E ad K M H) (hf : frh K id) (hH : ∀ q : Nat, q < H.size → H1[q]? = H[q]?) (hM : ∀ j : Nat, j ≠ id → M1 j = M j) (ha : ga_At D E (adu ad id H.size) M1 H1 id sk) : ga_R D E (adu ad id H.size) (Kup K id sk) M1 H1 := by
  have old : ∀ (j : Nat) (sj : gaS), j ≠ id → Kup K id sk j = some sj → K j = some sj := fun j sj hj e => by rw [Kup_ne hj] at e; exact e
  refine ⟨fun j sj hj => ?_, fun i j hi hj e => ?_⟩
  · by_cases c : j = id
    · subst c
      rw [Kup_self] at hj
      cases hj
      exact ha
    · have hj' := old j sj c hj
      have h1 := h.1 j sj hj'
      exact ((h1.kept (hH _ h1.lt) (hM j c)).adu c (hf.2 j sj hj'))
  · by_cases c : i = id
    · by_cases d : j = id
      · rw [c, d]
      · rw [Kup_ne d] at hj
        obtain ⟨sj, hsj⟩ := Option.ne_none_iff_exists'.mp hj
        have := (h.1 j sj hsj).lt
        rw [c, adu_self, adu_ne d] at e
        omega
    · rw [Kup_ne c] at hi
      obtain ⟨si, hsi⟩ := Option.ne_none_iff_exists'.mp hi
      have := (h.1 i si hsi).lt
      by_cases d : j = id
      · rw [d, adu_self, adu_ne c] at e
        omega
      · rw [Kup_ne d] at hj
        rw [adu_ne c, adu_ne d] at e
        exact h.2 i j hi hj e
def ga_up (X : gaX) (id a : Nat) (sk : gaS) (ds : Nat) : gaX := match X with
  | (p, l, e, R, s, m, args, below, meth, c, D, E, A, nL, cells, slots, Q, ad, K) => (p, l, e, R, s, m, args, below, meth, c, D, E, A, nL, cells + 1, slots + ds, Q, adu ad id a, Kup K id sk)
-- the method may write what is new; so much room is left
def ga_CA (X : gaX) (cc : ByteArray) (own : String) (dp c d : Nat) : Prop := ga_C X cc own dp ∧ match X with
  | (_, _, _, R, s, _, _, _, _, _, _, _, A, _, cells, slots, _, _, _) => (∀ q : Nat, s.heap.size ≤ q → A q) ∧ cells + c ≤ R.cells ∧ slots + d ≤ R.slots
theorem ga_up_K {X : gaX} {id a : Nat} {sk : gaS} {ds : Nat} : ga_K (ga_up X id a sk ds) = Kup (ga_K X) id sk := by
  obtain ⟨p, l, e, R, s, m, args, below, meth, c, D, E, A, nL, cells, slots, Q, ad, K⟩ := X
  rfl
theorem ga_L.adu {ad : Nat → Nat} {lv : List (Option gaV)} {nL id a : Nat} {ls : Array Slot} {st : List gaV} (h : ga_L ad lv nL ls) (hf : frv id lv st) : ga_L (adu ad id a) lv nL ls := ⟨h.1, h.2.1, h.2.2.1, fun i v hv => by
  rw [cv_adu (hf.1 v (List.mem_of_getElem? hv))]
  exact h.2.2.2 i v hv⟩
theorem st_adu {ad : Nat → Nat} {id a : Nat} {lv : List (Option gaV)} {st : List gaV} (hf : frv id lv st) : st.map (ga_cv (adu ad id a)) = st.map (ga_cv ad) := List.map_congr_left (fun v hv => cv_adu (hf.2 v hv))
section AL
variable {X : gaX} {cc : ByteArray} {own : String} {dp c d : Nat} {M : gaM} {pc pc' : Nat} {lv : List (Option gaV)} {st : List gaV}
theorem ga_new {idx ci id N : Nat} {q : vw_C} {rf : Nat → Option (Option Nat)} (C : ga_CA X cc own dp (c + 1) (d + N)) (dd : gd cc pc (.new idx) 3 pc') (hq : gaT[ci]? = some q) (hN : q.2.2 = N) (hcl : Cond.classLink own idx q.1 ∈ gaTb) (hinst : Cond.instantiable q.1 N ∈ gaTb) (hini : Cond.initialized q.1 ∈ gaTb) (hf : frh (ga_K X) id) (hv : frv id lv st) (hrf : ∀ (k : Nat), k < N → ∀ (ad : Nat → Nat), defaultValue (gaTy ci k) = ga_F ad (setr M id (fun _ => 0)) id rf k)
    (kk : ∀ a, ga_CA (ga_up X id a (.inr (.inl (ci, rf))) N) cc own dp c d → ga_W (ga_up X id a (.inr (.inl (ci, rf))) N) (setr M id (fun _ => 0)) pc' lv (.inr (some id) :: st)) : ga_W X M pc lv st := by
  obtain ⟨p, l, e, R, s, m, args, below, meth, c0, D, E, A, nL, cells, slots, Q, ad, K⟩ := X
  obtain ⟨⟨hx, hb, hml, hown, hts, hKK, hlk, hA, hf1, hf2, hf3, hf4⟩, hnew, hr1, hr2⟩ := C
  obtain ⟨dd, rfl⟩ := dd
  subst hN
  intro H locs ls hR hS hL
  have hKn := hKK.1 ci q hq
  have hf : frh K id := hf
  refine W.newcK hx hb hown (hts _ hcl) (hts _ hinst) (hts _ hini) rfl dd (by omega) (by omega) hKn.2.1 rfl fun H1 kC hkC e1 z1 o1 => ?_
  have hat : ga_At D E (adu ad id H.size) (setr M id (fun _ => 0)) H1 id (.inr (.inl (ci, rf))) := by
    refine ⟨q, hq, ?_⟩
    rw [adu_self]
    exact (u_born (gaTy ci) hts (gaT_in ci q hq) hKn hkC e1 (gaT_ty ci q hq)).to (fun j hj => hrf j hj _)
  have hR1 := hR.new (M1 := setr M id (fun _ => 0)) hf o1 (fun j hj => setr_ne hj) hat
  have hw := kk H.size ⟨⟨hx, hb, hml, hown, hts, hKK, hlk, fun i sk h1 h2 => by
    by_cases ci : i = id
    · rw [ci, adu_self]
      exact hnew _ hS.1
    · rw [Kup_ne ci] at h1
      rw [adu_ne ci]
      exact hA i sk h1 h2, hf1, hf2, by omega, by omega⟩, hnew, by omega, by omega⟩ H1 locs ls hR1 ⟨Nat.le_trans hS.1 (by omega), fun x h1 h2 => (o1 x (Nat.lt_of_lt_of_le h1 hS.1)).trans (hS.2.1 x h1 h2), hS.2.2⟩ (hL.adu hv)
  rw [List.map_cons, st_adu hv] at hw
  show W p l e R s m args below meth c0 H1 locs (cells + 1) (slots + q.2.2) Q (F0 m (pc + 3) ls (.ref H.size :: st.map (ga_cv ad)))
  have e2 : ga_cv (adu ad id H.size) (.inr (some id)) = .ref H.size := by
    show va_rf (some (adu ad id H.size id)) = _
    rw [adu_self]
    rfl
  rw [e2] at hw
  exact hw
end AL

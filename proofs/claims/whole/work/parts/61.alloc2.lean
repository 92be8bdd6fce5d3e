/-! ===== the machine: arrays made, references put, constructors called ===== -/
def ga_rk (X : gaX) (id : Nat) (sk : gaS) : gaX := match X with
  | (p, l, e, R, s, m, args, below, meth, c, D, E, A, nL, cells, slots, Q, ad, K) => (p, l, e, R, s, m, args, below, meth, c, D, E, A, nL, cells, slots, Q, ad, Kup K id sk)
def ga_nm (X : gaX) : String := match X with
  | (_, _, _, _, _, _, _, _, meth, _, _, _, _, _, _, _, _, _, _) => meth.name
theorem ga_rk_K {X : gaX} {id : Nat} {sk : gaS} : ga_K (ga_rk X id sk) = Kup (ga_K X) id sk := by
  obtain ⟨p, l, e, R, s, m, args, below, meth, c, D, E, A, nL, cells, slots, Q, ad, K⟩ := X
  rfl
theorem ga_rk_nm {X : gaX} {id : Nat} {sk : gaS} : ga_nm (ga_rk X id sk) = ga_nm X := by
  obtain ⟨p, l, e, R, s, m, args, below, meth, c, D, E, A, nL, cells, slots, Q, ad, K⟩ := X
  show meth.name = _
  exact (show meth.name = meth.name from rfl)
theorem ga_up_nm {X : gaX} {id a ds : Nat} {sk : gaS} : ga_nm (ga_up X id a sk ds) = ga_nm X := by
  obtain ⟨p, l, e, R, s, m, args, below, meth, c, D, E, A, nL, cells, slots, Q, ad, K⟩ := X
  show meth.name = _
  exact (show meth.name = meth.name from rfl)
theorem ga_R.rk {D : va_G} {E : Nat → ClassId} {ad : Nat → Nat} {K : gaK} {M M1 : gaM} {H H1 : Heap} {id : Nat} {sk sk1 : gaS} (h : ga_R D E ad K M H) (hk : K id = some sk) (hH : ∀ q : Nat, q ≠ ad id → H1[q]? = H[q]?) (hM : ∀ j : Nat, j ≠ id → M1 j = M j) (ha : ga_At D E ad M1 H1 id sk1) : ga_R D E ad (Kup K id sk1) M1 H1 := by
  have hid : K id ≠ none := by rw [hk]; exact fun q => by cases q
  have hne : ∀ j, Kup K id sk1 j ≠ none → K j ≠ none := fun j hj => by
    by_cases e : j = id
    · rw [e]; exact hid
    · rw [Kup_ne e] at hj; exact hj
  refine ⟨fun j sj hj => ?_, fun i j hi hj e => h.2 i j (hne i hi) (hne j hj) e⟩
  by_cases e : j = id
  · subst e
    rw [Kup_self] at hj
    cases hj
    exact ha
  · rw [Kup_ne e] at hj
    exact (h.1 j sj hj).kept (hH _ (fun z => e (h.2 j id (by rw [hj]; exact fun q => by cases q) hid z))) (hM j e)
def rfu (rf : Nat → Option (Option Nat)) (k : Nat) (r : Option Nat) : Nat → Option (Option Nat) := fun j => if j = k then some r else rf j
section AM
variable {X : gaX} {cc : ByteArray} {own : String} {dp c d : Nat} {M : gaM} {pc pc' : Nat} {lv : List (Option gaV)} {st : List gaV}
/-- newarray of ints -/
theorem ga_newi {id N : Nat} {n : Int} (C : ga_CA X cc own dp (c + 1) (d + N)) (dd : gd cc pc (.newarray .int) 2 pc') (hn : n = (N : Int)) (hN : N ≤ 100000) (harr : Cond.arrayClass .int ∈ gaTb) (hf : frh (ga_K X) id) (hv : frv id lv st)
    (kk : ∀ a, ga_CA (ga_up X id a (.inl N) N) cc own dp c d → ga_W (ga_up X id a (.inl N) N) (setr M id (fun _ => 0)) pc' lv (.inr (some id) :: st)) : ga_W X M pc lv (.inl n :: st) := by
  obtain ⟨p, l, e, R, s, m, args, below, meth, c0, D, E, A, nL, cells, slots, Q, ad, K⟩ := X
  obtain ⟨⟨hx, hb, hml, hown, hts, hKK, hlk, hA, hf1, hf2, hf3, hf4⟩, hnew, hr1, hr2⟩ := C
  obtain ⟨dd, rfl⟩ := dd
  subst hn
  intro H locs ls hR hS hL
  have hf : frh K id := hf
  have hE : s.vm.findClass ("[" ++ (FieldType.int).toString) = some (E 0) := (hKK.2 0 (E 0, .int) rfl).2
  have hnn : ¬ Int32.ofInt (N : Int) < 0 := by
    intro q
    have := Int32.lt_iff_toInt_lt.mp q
    rw [Int32.toInt_ofInt_of_le (by omega) (by omega)] at this
    have h0 : (0 : Int32).toInt = 0 := rfl
    omega
  have hnc : (Int32.ofInt (N : Int)).toNatClampNeg = N := by
    show (Int32.ofInt (N : Int)).toInt.toNat = N
    rw [Int32.toInt_ofInt_of_le (by omega) (by omega)]
    rfl
  refine va_newaK (atype := .int) hx hb (hts _ harr) rfl dd rfl hnn hnc (by show N * 4 ≤ _; omega) (by omega) (by omega) rfl fun H1 cA e1 z1 o1 hAr hNm => ?_
  have hcA : cA = E 0 := Option.some.inj (hNm.symm.trans hE)
  have hat : ga_At D E (adu ad id H.size) (setr M id (fun _ => 0)) H1 id (.inl N) := by
    show H1[adu ad id H.size id]? = some (arrV (E 0) N (fun j => .int (Int32.ofInt (setr M id (fun _ => 0) id j))))
    rw [adu_self, setr_self, ← hcA]
    exact e1
  have hR1 := hR.new (M1 := setr M id (fun _ => 0)) hf o1 (fun j hj => setr_ne hj) hat
  have hw := kk H.size ⟨⟨hx, hb, hml, hown, hts, hKK, hlk, fun i sk h1 h2 => by
    by_cases ci : i = id
    · rw [ci, adu_self]
      exact hnew _ hS.1
    · rw [Kup_ne ci] at h1
      rw [adu_ne ci]
      exact hA i sk h1 h2, hf1, hf2, by omega, by omega⟩, hnew, by omega, by omega⟩ H1 locs ls hR1 ⟨Nat.le_trans hS.1 (by omega), fun x h1 h2 => (o1 x (Nat.lt_of_lt_of_le h1 hS.1)).trans (hS.2.1 x h1 h2), hS.2.2⟩ (hL.adu hv)
  rw [List.map_cons, st_adu hv] at hw
  have e2 : ga_cv (adu ad id H.size) (.inr (some id)) = .ref H.size := by
    show va_rf (some (adu ad id H.size id)) = _
    rw [adu_self]
    rfl
  rw [e2] at hw
  exact hw
/-- a final field of the object under way, a reference -/
theorem ga_putRF {idx ci k id : Nat} {rf : Nat → Option (Option Nat)} {K : gaK} {r : Option Nat} {ty : FieldType} (C : ga_CA X cc own dp c d) (hK : ga_K X = K) (hin : ga_nm X = "<init>") (dd : gd cc pc (.putfield idx) 3 pc') (f : ga_fld own idx ci k) (hw : ∀ q, gaT[ci]? = some q → (q.2.1 k).2.2.2 = true ∧ (q.2.1 k).1 = own ∧ gaTy ci k = ty) (hn : ∀ a, narrow ty (va_rf a) = va_rf a) (hfit : ∀ a, fits ty (va_rf a) = true) (hk : K id = some (.inr (.inl (ci, rf))))
    (kk : ga_CA (ga_rk X id (.inr (.inl (ci, rfu rf k r)))) cc own dp c d → ga_W (ga_rk X id (.inr (.inl (ci, rfu rf k r)))) M pc' lv st) : ga_W X M pc lv (.inr r :: .inr (some id) :: st) := by
  obtain ⟨p, l, e, R, s, m, args, below, meth, c0, D, E, A, nL, cells, slots, Q, ad, K'⟩ := X
  obtain ⟨⟨hx, hb, hml, hown, hts, hKK, hlk, hA, hf1, hf2, hf3, hf4⟩, hnew, hr1, hr2⟩ := C
  obtain ⟨dd, rfl⟩ := dd
  obtain ⟨q, ref, hq, hkN, hl, hsame⟩ := f
  have hK : K' = K := hK
  subst hK
  have hin : meth.name = "<init>" := hin
  intro H locs ls hR hS hL
  obtain ⟨q', hq', cell, q1, q2, q3, q4⟩ := hR.1 id _ hk
  cases hq.symm.trans hq'
  obtain ⟨hS1, hfc, kC, hkC, hkind⟩ := hKK.1 ci q hq
  obtain ⟨cf, kf, fi, fd, hi, hsl⟩ := hS1 k hkN
  have hi' : s.fieldFound? ref (q.2.1 k).2.1 (q.2.1 k).2.2.1 = some (cf, kf, fi, fd) := by
    rcases hsame with h | h
    · rw [h]; exact hi
    · exact u_same (hts _ h) _ hi
  have hlay := hts _ (gaT_in ci q hq _ (u_in_lay hkN))
  unfold u_lay at hlay
  obtain ⟨w1, w2, w3⟩ := hw q hq
  rw [if_pos w1] at hlay
  have hst := (u_facts hfc hkC (u_lays hts (gaT_in ci q hq) hkN) hi).1
  have hcf : m.cls = cf := by
    obtain ⟨_, _, c', _, _, _, -, -, hf', -, -, -, hown2, -⟩ := Cond.laysFinal_spec hlay
    have e1 : c' = cf := by have := hi.symm.trans hf'; simp at this; exact this.1.symm
    rw [w2] at hown2
    rw [← e1]; exact Option.some.inj (hown.symm.trans hown2)
  have hd := gaT_ty ci q hq k hkN
  rw [w3] at hd
  have h6 := u_fits (v := va_rf (r.map ad)) hfc hkC hkind (Or.inr hlay) hi hd (hn _) (hfit _)
  have hap := va_apart (own := own) (args := args) hts (gaT_in ci q hq) (gaTy ci) (gaT_ty ci q hq) (gaT_nm ci q hq) hKK hq
  refine W.putFinK hx hb hown (hts _ hl) hi' hst hcf hin (by rw [q2]; exact h6) q1 q3 (by rw [hsl]; exact k2_hasslot (q4 k hkN)) rfl rfl dd fun H' e1 e2 e3 => ?_
  rw [hsl] at e1 ⊢
  have hat : ga_At D E ad M H' id (.inr (.inl (ci, rfu rf k r))) := by
    refine ⟨q, hq, t_OB.to (V := updV (ga_F ad M id rf) k (va_rf (r.map ad))) ⟨_, e1, q2, q3, t_set q4 hap hkN _⟩ (fun j _ => ?_)⟩
    unfold updV ga_F rfu
    by_cases ej : j = k
    · rw [if_pos ej, if_pos ej]
    · rw [if_neg ej, if_neg ej]
  exact kk ⟨⟨hx, hb, hml, hown, hts, hKK, hlk, fun i sk h1 h2 => by
    by_cases e : i = id
    · rw [e]
      exact hA id _ hk ga_wrt_o
    · rw [Kup_ne e] at h1
      exact hA i sk h1 h2, hf1, hf2, hf3, hf4⟩, hnew, hr1, hr2⟩ H' _ ls (hR.rk hk e3 (fun _ _ => rfl) hat) (hS.put e2 e3 (hA id _ hk ga_wrt_o)) hL
/-- a final field of the object under way, an int -/
theorem ga_putIF {idx ci k id : Nat} {rf : Nat → Option (Option Nat)} {K : gaK} {x : Int} (C : ga_CA X cc own dp c d) (hK : ga_K X = K) (hin : ga_nm X = "<init>") (dd : gd cc pc (.putfield idx) 3 pc') (f : ga_fld own idx ci k) (hw : ∀ q, gaT[ci]? = some q → (q.2.1 k).2.2.2 = true ∧ (q.2.1 k).1 = own ∧ gaTy ci k = .int) (hk : K id = some (.inr (.inl (ci, rf)))) (hr : rf k = none)
    (kk : ga_W X (ga_st M id k x) pc' lv st) : ga_W X M pc lv (.inl x :: .inr (some id) :: st) := by
  obtain ⟨p, l, e, R, s, m, args, below, meth, c0, D, E, A, nL, cells, slots, Q, ad, K'⟩ := X
  obtain ⟨⟨hx, hb, hml, hown, hts, hKK, hlk, hA, hf1, hf2, hf3, hf4⟩, hnew, hr1, hr2⟩ := C
  obtain ⟨dd, rfl⟩ := dd
  obtain ⟨q, ref, hq, hkN, hl, hsame⟩ := f
  have hK : K' = K := hK
  subst hK
  have hin : meth.name = "<init>" := hin
  intro H locs ls hR hS hL
  obtain ⟨q', hq', cell, q1, q2, q3, q4⟩ := hR.1 id _ hk
  cases hq.symm.trans hq'
  obtain ⟨hS1, hfc, kC, hkC, hkind⟩ := hKK.1 ci q hq
  obtain ⟨cf, kf, fi, fd, hi, hsl⟩ := hS1 k hkN
  have hi' : s.fieldFound? ref (q.2.1 k).2.1 (q.2.1 k).2.2.1 = some (cf, kf, fi, fd) := by
    rcases hsame with h | h
    · rw [h]; exact hi
    · exact u_same (hts _ h) _ hi
  have hlay := hts _ (gaT_in ci q hq _ (u_in_lay hkN))
  unfold u_lay at hlay
  obtain ⟨w1, w2, w3⟩ := hw q hq
  rw [if_pos w1] at hlay
  have hst := (u_facts hfc hkC (u_lays hts (gaT_in ci q hq) hkN) hi).1
  have hcf : m.cls = cf := by
    obtain ⟨_, _, c', _, _, _, -, -, hf', -, -, -, hown2, -⟩ := Cond.laysFinal_spec hlay
    have e1 : c' = cf := by have := hi.symm.trans hf'; simp at this; exact this.1.symm
    rw [w2] at hown2
    rw [← e1]; exact Option.some.inj (hown.symm.trans hown2)
  have hd := gaT_ty ci q hq k hkN
  rw [w3] at hd
  have h6 := u_fits (v := .int (Int32.ofInt x)) hfc hkC hkind (Or.inr hlay) hi hd (vp_nar_int _) rfl
  have hap := va_apart (own := own) (args := args) hts (gaT_in ci q hq) (gaTy ci) (gaT_ty ci q hq) (gaT_nm ci q hq) hKK hq
  refine W.putFinK hx hb hown (hts _ hl) hi' hst hcf hin (by rw [q2]; exact h6) q1 q3 (by rw [hsl]; exact k2_hasslot (q4 k hkN)) rfl rfl dd fun H' e1 e2 e3 => ?_
  rw [hsl] at e1 ⊢
  refine kk H' _ ls (hR.put hk e3 (fun j hj => ga_st_row j hj) ⟨q, hq, t_OB.to (V := updV (ga_F ad M id rf) k (.int (Int32.ofInt x))) ⟨_, e1, q2, q3, t_set q4 hap hkN _⟩ (fun j _ => ?_)⟩) (hS.put e2 e3 (hA id _ hk ga_wrt_o)) hL
  unfold updV ga_F
  by_cases ej : j = k
  · subst ej
    rw [if_pos rfl, hr]
    simp [ga_st_self]
  · rw [if_neg ej]
    cases rf j with
    | none => simp [ga_st, ej]
    | some r => rfl
end AM

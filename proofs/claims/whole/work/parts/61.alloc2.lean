/-! ===== the machine: references put ===== -/
theorem ga_R.rk {D : va_G} {E : Nat → ClassId} {ad : Nat → Nat} {K : gaK} {M M1 : gaM} {H H1 : Heap} {id : Nat} {sk sk1 : gaS} (h : ga_R D E ad K M H) (hk : K id = some sk) (hH : ∀ q : Nat, q ≠ ad id → H1[q]? = H[q]?) (hM : ∀ j : Nat, j ≠ id → M1 j = M j) (ha : ga_At D E ad M1 H1 id sk1) : ga_R D E ad (Kup K id sk1) M1 H1 := by
  have hid : K id ≠ none := by rw [hk]; exact fun q => by cases q
  have hne : ∀ j, Kup K id sk1 j ≠ none → K j ≠ none := fun j hj => by
    by_cases e : j = id
    · rw [e]; exact hid
    · rw [Kup_ne e] at hj; exact hj
  refine ⟨fun j sj hj => ?_, fun i j hi hj e => h.2 i j (hne i hi) (hne j hj) e⟩
  by_cases e : j = id
  · subst e
    rw [Kup_self] at hj
    cases hj
    exact ha
  · rw [Kup_ne e] at hj
    exact (h.1 j sj hj).kept (hH _ (fun z => e (h.2 j id (by rw [hj]; exact fun q => by cases q) hid z))) (hM j e)
def rfu (rf : Nat → Option (Option Nat)) (k : Nat) (r : Option Nat) : Nat → Option (Option Nat) := fun j => if j = k then some r else rf j
-- a skeleton changed at one place: the common end
theorem ga_chg {T : gaX → gaK → Nat → Nat → Prop} {cc : ByteArray} {own nm : String} {dp cN d : Nat} {K : gaK} {M : gaM} {pc' id : Nat} {lv : List (Option gaV)} {st : List gaV} {sk0 sk : gaS} {p : Program} {l : Launch} {e : Env} {R : Room} {s : State} {m : MethodId} {args : Array Value} {below : List Frame} {meth : Method} {c : Code} {D : va_G} {E : Nat → ClassId} {A : Nat → Prop} {nL cells slots : Nat} {Q : State → Prop} {ad : Nat → Nat} {H H1 : Heap} {locs1 : List Loc} {ls : Array Slot}
    (Z : ga_Z T (p, l, e, R, s, m, args, below, meth, c, D, E, A, nL, cells, slots, Q, ad, K) cc own dp nm cN d K) (hk : K id = some sk0) (hw : ga_wr sk0 ∨ id ≠ 99) (hR : ga_R D E ad K M H) (hS1 : va_S A s.heap H1 locs1) (hL : ga_L ad lv nL ls) (o1 : ∀ q : Nat, q ≠ ad id → H1[q]? = H[q]?) (hat : ga_At D E ad M H1 id sk)
    (kk : ∀ X', ga_Z T X' cc own dp nm cN d (Kup K id sk) → ga_W X' M pc' lv st) : W p l e R s m args below meth c H1 locs1 cells slots Q (F0 m pc' ls (st.map (ga_cv ad))) := by
  have Z0 := Z
  obtain ⟨⟨⟨hx, hb, hml, hown, hts, hKK, hlk, hA, hf1, hf2, hf3, hf4⟩, hnew, hr1, hr2, hAA, hSF⟩, -⟩ := Z0
  have hA1 : ∀ (i : Nat) (sj : gaS), Kup K id sk i = some sj → (K i = some sj → A (ad i)) → A (ad i) := fun i sj h1 h2 => by
    by_cases ci : i = id
    · rw [ci]
      exact hAA id _ hk hw
    · rw [Kup_ne ci] at h1
      exact h2 h1
  exact kk _ (Z.jp (mc := 0) (ms := 0) (ad1 := ad) (K1 := Kup K id sk) (fun _ _ => rfl) Kup_dom ⟨⟨hx, hb, hml, hown, hts, hKK, hlk, fun i sj h1 h2 => hA1 i sj h1 (fun q => hA i sj q h2), hf1, hf2, hf3, hf4⟩, hnew, hr1, hr2, fun i sj h1 h2 => hA1 i sj h1 (fun q => hAA i sj q h2), hSF⟩) H1 locs1 ls (hR.rk hk o1 (fun _ _ => rfl) hat) hS1 hL
section AM
variable {T : gaX → gaK → Nat → Nat → Prop} {X : gaX} {cc : ByteArray} {own nm : String} {dp c d : Nat} {K : gaK} {M : gaM} {pc pc' : Nat} {lv : List (Option gaV)} {st : List gaV}
/-- a final field of the object under way, a reference -/
theorem z_putRF {idx ci k id : Nat} {rf : Nat → Option (Option Nat)} {r : Option Nat} {ty : FieldType} (Z : ga_Z T X cc own dp nm c d K) (hin : nm = "<init>") (dd : gd cc pc (.putfield idx) 3 pc') (f : ga_fld own idx ci k) (hw : ∀ q, gaT[ci]? = some q → (q.2.1 k).2.2.2 = true ∧ (q.2.1 k).1 = own ∧ gaTy ci k = ty) (hn : ∀ a, narrow ty (va_rf a) = va_rf a) (hfit : ∀ a, fits ty (va_rf a) = true) (hk : K id = some (.inr (.inl (ci, rf))))
    (kk : ∀ X', ga_Z T X' cc own dp nm c d (Kup K id (.inr (.inl (ci, rfu rf k r)))) → ga_W X' M pc' lv st) : ga_W X M pc lv (.inr r :: .inr (some id) :: st) := by
  obtain ⟨p, l, e, R, s, m, args, below, meth, c0, D, E, A, nL, cells, slots, Q, ad, K'⟩ := X
  have Z0 := Z
  obtain ⟨⟨⟨hx, hb, hml, hown, hts, hKK, hlk, hA, hf1, hf2, hf3, hf4⟩, hnew, hr1, hr2, hAA, hSF⟩, hK, hnm, -⟩ := Z
  have hK : K' = K := hK
  subst hK
  obtain ⟨dd, rfl⟩ := dd
  obtain ⟨q, ref, hq, hkN, hl, hsame⟩ := f
  have hnm : meth.name = nm := hnm
  have hin : meth.name = "<init>" := hnm.trans hin
  intro H locs ls hR hS hL
  obtain ⟨q', hq', cell, q1, q2, q3, q4⟩ := hR.1 id _ hk
  cases hq.symm.trans hq'
  obtain ⟨hS1, hfc, kC, hkC, hkind⟩ := hKK.1 ci q hq
  obtain ⟨cf, kf, fi, fd, hi, hsl⟩ := hS1 k hkN
  have hi' : s.fieldFound? ref (q.2.1 k).2.1 (q.2.1 k).2.2.1 = some (cf, kf, fi, fd) := by
    rcases hsame with h | h
    · rw [h]; exact hi
    · exact u_same (hts _ h) _ hi
  have hlay := hts _ (gaT_in ci q hq _ (u_in_lay hkN))
  unfold u_lay at hlay
  obtain ⟨w1, w2, w3⟩ := hw q hq
  rw [if_pos w1] at hlay
  have hst := (u_facts hfc hkC (u_lays hts (gaT_in ci q hq) hkN) hi).1
  have hcf : m.cls = cf := by
    obtain ⟨_, _, c', _, _, _, -, -, hf', -, -, -, hown2, -⟩ := Cond.laysFinal_spec hlay
    have e1 : c' = cf := by have := hi.symm.trans hf'; simp at this; exact this.1.symm
    rw [w2] at hown2
    rw [← e1]; exact Option.some.inj (hown.symm.trans hown2)
  have hd := gaT_ty ci q hq k hkN
  rw [w3] at hd
  have h6 := u_fits (v := va_rf (r.map ad)) hfc hkC hkind (Or.inr hlay) hi hd (hn _) (hfit _)
  have hap := va_apart (own := own) (args := args) hts (gaT_in ci q hq) (gaTy ci) (gaT_ty ci q hq) (gaT_nm ci q hq) hKK hq
  refine W.putFinK hx hb hown (hts _ hl) hi' hst hcf hin (by rw [q2]; exact h6) q1 q3 (by rw [hsl]; exact k2_hasslot (q4 k hkN)) rfl rfl dd fun H' e1 e2 e3 => ?_
  rw [hsl] at e1 ⊢
  refine ga_chg Z0 hk (.inl ga_wrt_o) hR (hS.put e2 e3 (hA id _ hk ga_wrt_o)) hL e3 ?_ kk
  refine ⟨q, hq, t_OB.to (V := updV (ga_F ad M id rf) k (va_rf (r.map ad))) ⟨_, e1, q2, q3, t_set q4 hap hkN _⟩ (fun j _ => ?_)⟩
  unfold updV ga_F rfu
  by_cases ej : j = k
  · rw [if_pos ej, if_pos ej]
  · rw [if_neg ej, if_neg ej]
/-- a field that isn't final, a reference -/
theorem z_putRN {idx ci k id : Nat} {rf : Nat → Option (Option Nat)} {r : Option Nat} {ty : FieldType} (Z : ga_Z T X cc own dp nm c d K) (dd : gd cc pc (.putfield idx) 3 pc') (f : ga_fld own idx ci k) (hw : ∀ q, gaT[ci]? = some q → (q.2.1 k).2.2.2 = false ∧ gaTy ci k = ty) (hn : ∀ a, narrow ty (va_rf a) = va_rf a) (hfit : ∀ a, fits ty (va_rf a) = true) (hk : K id = some (.inr (.inl (ci, rf))))
    (kk : ∀ X', ga_Z T X' cc own dp nm c d (Kup K id (.inr (.inl (ci, rfu rf k r)))) → ga_W X' M pc' lv st) : ga_W X M pc lv (.inr r :: .inr (some id) :: st) := by
  obtain ⟨p, l, e, R, s, m, args, below, meth, c0, D, E, A, nL, cells, slots, Q, ad, K'⟩ := X
  have Z0 := Z
  obtain ⟨⟨⟨hx, hb, hml, hown, hts, hKK, hlk, hA, hf1, hf2, hf3, hf4⟩, hnew, hr1, hr2, hAA, hSF⟩, hK, hnm, -⟩ := Z
  have hK : K' = K := hK
  subst hK
  obtain ⟨dd, rfl⟩ := dd
  obtain ⟨q, ref, hq, hkN, hl, hsame⟩ := f
  intro H locs ls hR hS hL
  obtain ⟨q', hq', cell, q1, q2, q3, q4⟩ := hR.1 id _ hk
  cases hq.symm.trans hq'
  obtain ⟨hS1, hfc, kC, hkC, hkind⟩ := hKK.1 ci q hq
  obtain ⟨cf, kf, fi, fd, hi, hsl⟩ := hS1 k hkN
  have hi' : s.fieldFound? ref (q.2.1 k).2.1 (q.2.1 k).2.2.1 = some (cf, kf, fi, fd) := by
    rcases hsame with h | h
    · rw [h]; exact hi
    · exact u_same (hts _ h) _ hi
  have hlay := hts _ (gaT_in ci q hq _ (u_in_lay hkN))
  unfold u_lay at hlay
  rw [if_neg (by rw [(hw q hq).1]; decide)] at hlay
  have hst := (u_facts hfc hkC (u_lays hts (gaT_in ci q hq) hkN) hi).1
  have hd := gaT_ty ci q hq k hkN
  rw [(hw q hq).2] at hd
  have h6 := u_store (v := va_rf (r.map ad)) hfc hkC hkind hlay hi hd (hn _) (hfit _)
  have hap := va_apart (own := own) (args := args) hts (gaT_in ci q hq) (gaTy ci) (gaT_ty ci q hq) (gaT_nm ci q hq) hKK hq
  refine W.putK hx hb (f := fd) ⟨hown, hts _ hl, ⟨_, _, _, hi'⟩, hst⟩ (by rw [q2]; exact h6) q1 q3 (by rw [hsl]; exact k2_hasslot (q4 k hkN)) rfl rfl dd fun H' e1 e2 e3 => ?_
  rw [hsl] at e1 ⊢
  refine ga_chg Z0 hk (.inl ga_wrt_o) hR (hS.put e2 e3 (hA id _ hk ga_wrt_o)) hL e3 ?_ kk
  refine ⟨q, hq, t_OB.to (V := updV (ga_F ad M id rf) k (va_rf (r.map ad))) ⟨_, e1, q2, q3, t_set q4 hap hkN _⟩ (fun j _ => ?_)⟩
  unfold updV ga_F rfu
  by_cases ej : j = k
  · rw [if_pos ej, if_pos ej]
  · rw [if_neg ej, if_neg ej]
/-- aastore of a JOB into an array of Objects -/
theorem z_aast {id w N : Nat} {g : Nat → Option Nat} {i : Int} {rf : Nat → Option (Option Nat)} (Z : ga_Z T X cc own dp nm c d K) (dd : gd cc pc .aastore 1 pc') (hk : K id = some (.inr (.inr (3, N, g)))) (h99 : id ≠ 99) (hkw : K w = some (.inr (.inl (4, rf)))) (hN : N ≤ 100000) (hi : ix i N)
    (kk : ∀ X', ga_Z T X' cc own dp nm c d (Kup K id (.inr (.inr (3, N, fun j => if j = i.toNat then some w else g j)))) → ga_W X' M pc' lv st) : ga_W X M pc lv (.inr (some w) :: .inl i :: .inr (some id) :: st) := by
  obtain ⟨p, l, e, R, s, m, args, below, meth, c0, D, E, A, nL, cells, slots, Q, ad, K'⟩ := X
  have Z0 := Z
  obtain ⟨⟨⟨hx, hb, hml, hown, hts, hKK, hlk, hA, hf1, hf2, hf3, hf4⟩, hnew, hr1, hr2, hAA, hSF⟩, hK, hnm, -⟩ := Z
  have hK : K' = K := hK
  subst hK
  obtain ⟨dd, rfl⟩ := dd
  obtain ⟨g1, g2⟩ := ga_ix hi (by omega)
  have hlt : i.toNat < N := by obtain ⟨h1, h2⟩ := hi; omega
  intro H locs ls hR hS hL
  obtain ⟨q', hq', cellV, v1, v2, v3, -⟩ := hR.1 w _ hkw
  cases hq'
  have hcls := (hKK.1 4 _ rfl).2
  obtain ⟨kA, comp, k1, k2, k3, -⟩ := (hKK.2 3 (E 3, .object "java/lang/Object") rfl).2
  obtain ⟨kE, hkE, -⟩ := Vm.findClass_spec k3
  obtain ⟨c0', t1, f1, f2, f3⟩ := Cond.castable_spec (va_Nw.use (A := args) rfl hSF.2.2.2.2.1)
  cases hcls.1.symm.trans f1
  cases k3.symm.trans f2
  obtain ⟨kC, hkC, -⟩ := hcls.2
  have hci : H[ad id]? = some (arrV (E 3) N (ga_G ad M id 3 g)) := hR.1 id _ hk
  refine W.aast (a := ad id) (v := ad w) (j := Int32.ofInt i) hx hb hci (fun q h => by cases h) (fun h => by cases h) k1 k2 rfl hkE ⟨fun q => g1 (.inl q), by show _ < (arrV _ _ _).slots.size; rw [arrV_size, g2]; exact hlt⟩ v1 (fun q h => by rw [v3] at h; cases h) (by rw [v2]; exact hkC) (by rw [v2]; exact f3) rfl rfl dd fun H1 e z oq => ?_
  refine ga_chg Z0 hk (.inr h99) hR (hS.put z oq (hAA id _ hk (.inr h99))) hL oq ?_ kk
  show H1[ad id]? = some (arrV (E 3) N (ga_G ad M id 3 (fun j => if j = i.toNat then some w else g j)))
  rw [e, g2, arrV_store]
  congr 1
  refine arrV_ext (fun j _ => ?_)
  have h31 : ¬ (3 : Nat) = 1 := by decide
  unfold updV ga_G
  by_cases ej : j = i.toNat
  · simp [ej, va_rf]
  · simp [ej]
/-- getstatic of the JDK's empty array -/
theorem z_gets {idx : Nat} (Z : ga_Z T X cc own dp nm c d K) (dd : gd cc pc (.getstatic idx) 3 pc') (hl : Cond.fieldLink own idx RJx4a65c "DEFAULTCAPACITY_EMPTY_ELEMENTDATA" "[Ljava/lang/Object;" ∈ gaTb) (kk : ga_W X M pc' lv (.inr (some 99) :: st)) : ga_W X M pc lv st := by
  obtain ⟨p, l, e, R, s, m, args, below, meth, c0, D, E, A, nL, cells, slots, Q, ad, K'⟩ := X
  obtain ⟨⟨⟨hx, hb, hml, hown, hts, hKK, hlk, hA, hf1, hf2, hf3, hf4⟩, hnew, hr1, hr2, hAA, hSF⟩, hK, hnm, -⟩ := Z
  obtain ⟨dd, rfl⟩ := dd
  intro H locs ls hR hS hL
  exact va_gets hx hb hSF.2.2.2.2.2.1 hS hown (hts _ hl) (fun x h => h) dd (kk H locs ls hR hS hL)
/-- a final field of the object under way, an int -/
theorem z_putIF {idx ci k id : Nat} {rf : Nat → Option (Option Nat)} {x : Int} (Z : ga_Z T X cc own dp nm c d K) (hin : nm = "<init>") (dd : gd cc pc (.putfield idx) 3 pc') (f : ga_fld own idx ci k) (hw : ∀ q, gaT[ci]? = some q → (q.2.1 k).2.2.2 = true ∧ (q.2.1 k).1 = own ∧ gaTy ci k = .int) (hk : K id = some (.inr (.inl (ci, rf)))) (hr : rf k = none)
    (kk : ga_W X (ga_st M id k x) pc' lv st) : ga_W X M pc lv (.inl x :: .inr (some id) :: st) := by
  obtain ⟨p, l, e, R, s, m, args, below, meth, c0, D, E, A, nL, cells, slots, Q, ad, K'⟩ := X
  obtain ⟨⟨⟨hx, hb, hml, hown, hts, hKK, hlk, hA, hf1, hf2, hf3, hf4⟩, hnew, hr1, hr2, hAA, hSF⟩, hK, hnm, -⟩ := Z
  obtain ⟨dd, rfl⟩ := dd
  obtain ⟨q, ref, hq, hkN, hl, hsame⟩ := f
  have hK : K' = K := hK
  subst hK
  have hnm : meth.name = nm := hnm
  have hin : meth.name = "<init>" := hnm.trans hin
  intro H locs ls hR hS hL
  obtain ⟨q', hq', cell, q1, q2, q3, q4⟩ := hR.1 id _ hk
  cases hq.symm.trans hq'
  obtain ⟨hS1, hfc, kC, hkC, hkind⟩ := hKK.1 ci q hq
  obtain ⟨cf, kf, fi, fd, hi, hsl⟩ := hS1 k hkN
  have hi' : s.fieldFound? ref (q.2.1 k).2.1 (q.2.1 k).2.2.1 = some (cf, kf, fi, fd) := by
    rcases hsame with h | h
    · rw [h]; exact hi
    · exact u_same (hts _ h) _ hi
  have hlay := hts _ (gaT_in ci q hq _ (u_in_lay hkN))
  unfold u_lay at hlay
  obtain ⟨w1, w2, w3⟩ := hw q hq
  rw [if_pos w1] at hlay
  have hst := (u_facts hfc hkC (u_lays hts (gaT_in ci q hq) hkN) hi).1
  have hcf : m.cls = cf := by
    obtain ⟨_, _, c', _, _, _, -, -, hf', -, -, -, hown2, -⟩ := Cond.laysFinal_spec hlay
    have e1 : c' = cf := by have := hi.symm.trans hf'; simp at this; exact this.1.symm
    rw [w2] at hown2
    rw [← e1]; exact Option.some.inj (hown.symm.trans hown2)
  have hd := gaT_ty ci q hq k hkN
  rw [w3] at hd
  have h6 := u_fits (v := .int (Int32.ofInt x)) hfc hkC hkind (Or.inr hlay) hi hd (vp_nar_int _) rfl
  have hap := va_apart (own := own) (args := args) hts (gaT_in ci q hq) (gaTy ci) (gaT_ty ci q hq) (gaT_nm ci q hq) hKK hq
  refine W.putFinK hx hb hown (hts _ hl) hi' hst hcf hin (by rw [q2]; exact h6) q1 q3 (by rw [hsl]; exact k2_hasslot (q4 k hkN)) rfl rfl dd fun H' e1 e2 e3 => ?_
  rw [hsl] at e1 ⊢
  refine kk H' _ ls (hR.put hk e3 (fun j hj => ga_st_row j hj) ⟨q, hq, t_OB.to (V := updV (ga_F ad M id rf) k (.int (Int32.ofInt x))) ⟨_, e1, q2, q3, t_set q4 hap hkN _⟩ (fun j _ => ?_)⟩) (hS.put e2 e3 (hA id _ hk ga_wrt_o)) hL
  unfold updV ga_F
  by_cases ej : j = k
  · subst ej
    rw [if_pos rfl, hr]
    simp [ga_st_self]
  · rw [if_neg ej]
    cases rf j with
    | none => simp [ga_st, ej]
    | some r => rfl
end AM

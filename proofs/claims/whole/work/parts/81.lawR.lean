/-! ===== the law: what its walk needs ===== -/
abbrev lvL (i : Int) : List (Option gaV) := [some (.inr (some 98)), some (.inr (some 0)), some (.inr (some 100)), some (.inl i)]
def sv (xs : Nat → Int32) (i : Int) : Int := (xs i.toNat).toInt
theorem sv_ok {xs : Nat → Int32} {i : Int} : ok (sv xs i) := by
  have h1 := (xs i.toNat).le_toInt
  have h2 := (xs i.toNat).toInt_lt
  unfold sv
  constructor <;> omega
def lT (b L : Nat) (xs : Nat → Int32) : gaX → gaK → Nat → Nat → Prop := fun X _ c d => match X with
  | (_, _, _, R, s, _, args, below, meth, _, _, _, A, _, cells, slots, Q, ad, _) => R = room_1 ∧ args = #[Value.ref b] ∧ va_X b L xs s s.heap ∧ b < s.heap.size ∧ ad 98 = b ∧ (A = fun q => s.heap.size ≤ q) ∧ Q = lw_Z below #[Value.ref b] s ∧ meth.sig.returnType = ret ∧ cells + c ≤ 600000 ∧ slots + d ≤ 7302250
theorem lT_jp {b L : Nat} {xs : Nat → Int32} {X : gaX} {K K1 : gaK} {ad1 : Nat → Nat} {c d mc ms : Nat} (hT : lT b L xs X K (c + mc) (d + ms)) (ha : ad1 98 = ga_ad X 98) : lT b L xs (ga_jp X ad1 K1 mc ms) K1 c d := by
  obtain ⟨p, l, e, R, s, m, args, below, meth, c0, D, E, A, nL, cells, slots, Q, ad, K'⟩ := X
  obtain ⟨h1, h2, h3, h4, h5, h6, h7, h8, h9, h10⟩ := hT
  exact ⟨h1, h2, h3, h4, ha.trans h5, h6, h7, h8, by omega, by omega⟩
theorem lT_TS {b L : Nat} {xs : Nat → Int32} : ga_TS (lT b L xs) := fun X K K1 ad1 c d mc ms hT ha hd => lT_jp hT (ha 98 (.inr (by decide)))
section LR
variable {b L : Nat} {xs : Nat → Int32} {X : gaX} {cc : ByteArray} {own nm : String} {dp c d : Nat} {K K1 : gaK} {M : gaM} {pc pc' tgt : Nat} {lv : List (Option gaV)} {st : List gaV}
theorem z_slen (Z : ga_Z (lT b L xs) X cc own dp nm c d K) (dd : gd cc pc .arraylength 1 pc') (kk : ga_W X M pc' lv (.inl (L : Int) :: st)) : ga_W X M pc lv (.inr (some 98) :: st) := by
  obtain ⟨p, l, e, R, s, m, args, below, meth, c0, D, E, A, nL, cells, slots, Q, ad, K'⟩ := X
  obtain ⟨⟨⟨hx, hb, hml, hown, hts, hKK, hlk, hA, hf1, hf2, hf3, hf4⟩, hnew, hr1, hr2, hAA, hSF⟩, hK, hnm, ⟨h1, h2, h3, h4, h5, h6, h7, h8, h9, h10⟩, -⟩ := Z
  obtain ⟨dd, rfl⟩ := dd
  intro H locs ls hR hS hL
  have k' := kk H locs ls hR hS hL
  simp only [List.map_cons, ga_cv, Int32.ofInt_eq_ofNat] at k'
  have e1 : ga_cv ad (.inr (some 98)) = .ref b := by
    show va_rf (some (ad 98)) = _
    rw [h5]
    rfl
  rw [List.map_cons, e1]
  exact va_slen hx hb h3 h4 (by rw [h6]; exact Nat.not_le.mpr h4) hS dd k'
theorem z_sld {i : Int} (Z : ga_Z (lT b L xs) X cc own dp nm c d K) (dd : gd cc pc .iaload 1 pc') (hi : ix i L) (hLL : L ≤ 3584) (kk : ga_W X M pc' lv (.inl (sv xs i) :: st)) : ga_W X M pc lv (.inl i :: .inr (some 98) :: st) := by
  obtain ⟨p, l, e, R, s, m, args, below, meth, c0, D, E, A, nL, cells, slots, Q, ad, K'⟩ := X
  obtain ⟨⟨⟨hx, hb, hml, hown, hts, hKK, hlk, hA, hf1, hf2, hf3, hf4⟩, hnew, hr1, hr2, hAA, hSF⟩, hK, hnm, ⟨h1, h2, h3, h4, h5, h6, h7, h8, h9, h10⟩, -⟩ := Z
  obtain ⟨dd, rfl⟩ := dd
  obtain ⟨g1, g2⟩ := ga_ix hi (by omega)
  intro H locs ls hR hS hL
  have k' := kk H locs ls hR hS hL
  have e1 : ga_cv ad (.inr (some 98)) = .ref b := by
    show va_rf (some (ad 98)) = _
    rw [h5]
    rfl
  have e2 : ga_cv ad (.inl (sv xs i)) = .int (xs i.toNat) := by
    show Value.int (Int32.ofInt (xs i.toNat).toInt) = _
    rw [Int32.ofInt_toInt]
  rw [List.map_cons, e2] at k'
  rw [List.map_cons, List.map_cons, e1]
  refine va_sld (i := Int32.ofInt i) hx hb h3 h4 (by rw [h6]; exact Nat.not_le.mpr h4) hS g1 dd ?_
  rw [g2]
  exact k'
theorem ga_iand31 {x : Int} (C : ga_C X cc own dp) (dd : gd cc pc .iand 1 pc') (kk : ∀ v : Int, 0 ≤ v → v ≤ 31 → ga_W X M pc' lv (.inl v :: st)) : ga_W X M pc lv (.inl 31 :: .inl x :: st) := by
  obtain ⟨p, l, e, R, s, m, args, below, meth, c0, D, E, A, nL, cells, slots, Q, ad, K'⟩ := X
  obtain ⟨hx, hb, -⟩ := C
  obtain ⟨dd, rfl⟩ := dd
  intro H locs ls hR hS hL
  have hn : (Int32.ofInt x &&& Int32.ofInt 31).toBitVec.toNat ≤ 31 := by
    rw [Int32.toBitVec_and, BitVec.toNat_and]
    exact Nat.le_trans Nat.and_le_right (by decide)
  have ht : (Int32.ofInt x &&& Int32.ofInt 31).toInt = ((Int32.ofInt x &&& Int32.ofInt 31).toBitVec.toNat : Int) := BitVec.toInt_eq_toNat_of_lt (by omega)
  have k' := kk (Int32.ofInt x &&& Int32.ofInt 31).toInt (by omega) (by omega) H locs ls hR hS hL
  have e2 : ga_cv ad (.inl (Int32.ofInt x &&& Int32.ofInt 31).toInt) = .int (Int32.ofInt x &&& Int32.ofInt 31) := by
    show Value.int (Int32.ofInt (Int32.ofInt x &&& Int32.ofInt 31).toInt) = _
    rw [Int32.ofInt_toInt]
  rw [List.map_cons, e2] at k'
  exact lv_iand hx hb dd k'
theorem ga_icmp_eqS {x : Int} (C : ga_C X cc own dp) (dd : gd_b cc pc (.if_icmp .eq) tgt pc') (k : ga_W X M tgt lv st) : ga_W X M pc lv (.inl x :: .inl x :: st) := by
  obtain ⟨p, l, e, R, s, m, args, below, meth, c, D, E, A, nL, cells, slots, Q, ad, K⟩ := X
  obtain ⟨hx, hb, -⟩ := C
  obtain ⟨off, dd, ht, rfl⟩ := dd
  intro H locs ls hR hS hL
  exact lv_icmp_eq hx hb dd ht (fun _ => k H locs ls hR hS hL) (fun q => absurd rfl q)
/-- less is known of the heap -/
theorem z_sub (Z : ga_Z (lT b L xs) X cc own dp nm c d K) (hs : ∀ (id : Nat) (sk : gaS), K1 id = some sk → K id = some sk) (kk : ∀ X', ga_Z (lT b L xs) X' cc own dp nm c d K1 → ga_W X' M pc lv st) : ga_W X M pc lv st := by
  obtain ⟨p, l, e, R, s, m, args, below, meth, c0, D, E, A, nL, cells, slots, Q, ad, K'⟩ := X
  have hK : K' = K := Z.2.1
  subst hK
  have Z0 := Z
  obtain ⟨⟨⟨hx, hb, hml, hown, hts, hKK, hlk, hA, hf1, hf2, hf3, hf4⟩, hnew, hr1, hr2, hAA, hSF⟩, -⟩ := Z0
  have hT1 : lT b L xs (ga_jp (p, l, e, R, s, m, args, below, meth, c0, D, E, A, nL, cells, slots, Q, ad, K') ad K1 0 0) K1 c d := lT_jp Z.2.2.2.1 rfl
  have hC1 : ga_CA (ga_jp (p, l, e, R, s, m, args, below, meth, c0, D, E, A, nL, cells, slots, Q, ad, K') ad K1 0 0) cc own dp c d := ⟨⟨hx, hb, hml, hown, hts, hKK, hlk, fun i sk q1 q2 => hA i sk (hs i sk q1) q2, hf1, hf2, hf3, hf4⟩, hnew, hr1, hr2, fun i sk q1 q2 => hAA i sk (hs i sk q1) q2, hSF⟩
  have hw := kk _ ⟨hC1, ga_jp_K, ga_jp_nm.trans Z.2.2.1, hT1, Z.2.2.2.2⟩
  intro H locs ls hR hS hL
  exact hw H locs ls (hR.sub hs) hS hL
/-- the law's end -/
theorem z_lret (Z : ga_Z (lT b L xs) X code own dp nm c d K) (dd : gd code pc .ireturn 1 pc') : ga_W X M pc lv [.inl 1] := by
  obtain ⟨p, l, e, R, s, m, args, below, meth, c0, D, E, A, nL, cells, slots, Q, ad, K'⟩ := X
  obtain ⟨⟨⟨hx, hb, hml, hown, hts, hKK, hlk, hA, hf1, hf2, hf3, hf4⟩, hnew, hr1, hr2, hAA, hSF⟩, hK, hnm, ⟨h1, h2, h3, h4, h5, h6, h7, h8, h9, h10⟩, -⟩ := Z
  obtain ⟨dd, rfl⟩ := dd
  subst h1
  subst h2
  subst h6
  subst h7
  intro H locs ls hR hS hL
  exact va_forget (fun q hq => hS.2.2 q hq) (W.widen (k := 600000) (n := 7302250) (by omega) (by omega) (lw_ret hx hb h8 hlk dd))
end LR
def lK (b L : Nat) (xs : Nat → Int32) (nm : String) (i : Int) (c d : Nat) : Prop := ∀ (X' : gaX) (n' e' cp' c' d' : Nat) (Mm : gaM), ga_Z (lT b L xs) X' cL_law RL 1000 nm c' d' (gk n' e' cp') → gj n' e' cp' → Inv n' Mm → c ≤ c' + 2 → d ≤ d' + 100 → ga_W X' Mm 778 (lvL i) []

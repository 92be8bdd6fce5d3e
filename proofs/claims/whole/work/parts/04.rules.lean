/-! ===== the abstract machine's rules, one a kind of instruction ===== -/
theorem ga_At.kept {D : va_G} {E : Nat → ClassId} {ad : Nat → Nat} {M M1 : gaM} {H H1 : Heap} {id : Nat} {sk : gaS} (h : ga_At D E ad M H id sk) (hH : H1[ad id]? = H[ad id]?) (hM : M1 id = M id) : ga_At D E ad M1 H1 id sk := by
  rcases sk with n | ⟨ci, rf⟩ | ⟨t, n, g⟩
  · show H1[ad id]? = some (arrV (E 0) n (fun j => .int (Int32.ofInt (M1 id j))))
    rw [hH, hM]; exact h
  · obtain ⟨q, h1, h2⟩ := h
    refine ⟨q, h1, ?_⟩
    have e : ga_F ad M1 id rf = ga_F ad M id rf := by
      funext k
      unfold ga_F
      rw [hM]
    rw [e]
    exact h2.kept hH
  · show H1[ad id]? = some (arrV (E t) n (ga_G ad M1 id t g))
    have e : ga_G ad M1 id t g = ga_G ad M id t g := by
      funext k
      unfold ga_G
      rw [hM]
    rw [hH, e]; exact h
theorem ga_R.put {D : va_G} {E : Nat → ClassId} {ad : Nat → Nat} {K : gaK} {M M1 : gaM} {H H1 : Heap} {id : Nat} {sk : gaS} (h : ga_R D E ad K M H) (hk : K id = some sk) (hH : ∀ q : Nat, q ≠ ad id → H1[q]? = H[q]?) (hM : ∀ j : Nat, j ≠ id → M1 j = M j) (ha : ga_At D E ad M1 H1 id sk) : ga_R D E ad K M1 H1 := by
  refine ⟨fun j sj hj => ?_, h.2⟩
  by_cases e : j = id
  · subst e
    rw [hk] at hj
    cases hj
    exact ha
  · exact (h.1 j sj hj).kept (hH _ (fun z => e (h.2 j id (by rw [hj]; exact fun q => by cases q) (by rw [hk]; exact fun q => by cases q) z))) (hM j e)
theorem ga_wrt_i {n : Nat} : ga_wr (.inl n) := trivial
theorem ga_wrt_o {o : Nat × (Nat → Option (Option Nat))} : ga_wr (.inr (.inl o)) := trivial
theorem ga_wrt_z {n : Nat} {g : Nat → Option Nat} : ga_wr (.inr (.inr (1, n, g))) := show (1 : Nat) ≠ 3 by decide
theorem ga_st_row {M : gaM} {i j : Nat} {v : Int} (a : Nat) (h : a ≠ i) : ga_st M i j v a = M a := by
  funext b
  exact ga_st_id h
theorem ga_lenI {ad : Nat → Nat} {rest : List gaV} (h : rest.length ≤ 8) : ((rest.map (ga_cv ad)).map fun v => v.category).sum ≤ 8 := by
  have e : ∀ l : List gaV, ((l.map (ga_cv ad)).map fun v => v.category).sum = l.length := by
    intro l
    induction l with
    | nil => rfl
    | cons a l ih => simp only [List.map_cons, List.sum_cons, List.length_cons, ih, ga_cat]; omega
  rw [e]; exact h
-- decoded instructions
def gd (cc : ByteArray) (pc : Nat) (i : Instr) (n pc' : Nat) : Prop := decode cc pc = .ok (i, n) ∧ pc + n = pc'
def gd_iload (cc : ByteArray) (pc i pc' : Nat) : Prop := (decode cc pc = .ok (.iload i, 2) ∧ pc + 2 = pc') ∨ ∃ k : Fin 4, decode cc pc = .ok (.iload_n k, 1) ∧ (k : Nat) = i ∧ pc + 1 = pc'
def gd_aload (cc : ByteArray) (pc i pc' : Nat) : Prop := (decode cc pc = .ok (.aload i, 2) ∧ pc + 2 = pc') ∨ ∃ k : Fin 4, decode cc pc = .ok (.aload_n k, 1) ∧ (k : Nat) = i ∧ pc + 1 = pc'
def gd_istore (cc : ByteArray) (pc i pc' : Nat) : Prop := (decode cc pc = .ok (.istore i, 2) ∧ pc + 2 = pc') ∨ ∃ k : Fin 4, decode cc pc = .ok (.istore_n k, 1) ∧ (k : Nat) = i ∧ pc + 1 = pc'
def gd_astore (cc : ByteArray) (pc i pc' : Nat) : Prop := (decode cc pc = .ok (.astore i, 2) ∧ pc + 2 = pc') ∨ ∃ k : Fin 4, decode cc pc = .ok (.astore_n k, 1) ∧ (k : Nat) = i ∧ pc + 1 = pc'
def gd_push (cc : ByteArray) (pc : Nat) (v : Int) (pc' : Nat) : Prop := (decode cc pc = .ok (.iconst v, 1) ∧ pc + 1 = pc') ∨ (decode cc pc = .ok (.bipush v, 2) ∧ (Int8.ofInt v).toInt32 = Int32.ofInt v ∧ pc + 2 = pc') ∨ (decode cc pc = .ok (.sipush v, 3) ∧ (Int16.ofInt v).toInt32 = Int32.ofInt v ∧ pc + 3 = pc')
def gd_b (cc : ByteArray) (pc : Nat) (i : Int → Instr) (tgt pc' : Nat) : Prop := ∃ off : Int, decode cc pc = .ok (i off, 3) ∧ (pc : Int) + off = (tgt : Int) ∧ pc + 3 = pc'
section GA
variable {X : gaX} {cc : ByteArray} {own : String} {dp : Nat} {M : gaM} {pc pc' tgt : Nat} {lv lv' : List (Option gaV)} {st : List gaV}
theorem ga_iload {i : Nat} {x : Int} (C : ga_C X cc own dp) (d : gd_iload cc pc i pc') (hl : lv[i]? = some (some (.inl x))) (k : ga_W X M pc' lv (.inl x :: st)) : ga_W X M pc lv st := by
  obtain ⟨p, l, e, R, s, m, args, below, meth, c, D, E, A, nL, cells, slots, Q, ad, K⟩ := X
  obtain ⟨hx, hb, -⟩ := C
  intro H locs ls hR hS hL
  have k' := k H locs ls hR hS hL
  rcases d with ⟨d, rfl⟩ | ⟨j, d, rfl, rfl⟩
  · exact lv_iload hx hb d (ga_lget hL hl) k'
  · exact lv_iload_n hx hb d rfl (ga_lget hL hl) k'
theorem ga_aload {i x : Nat} (C : ga_C X cc own dp) (d : gd_aload cc pc i pc') (hl : lv[i]? = some (some (.inr (some x)))) (k : ga_W X M pc' lv (.inr (some x) :: st)) : ga_W X M pc lv st := by
  obtain ⟨p, l, e, R, s, m, args, below, meth, c, D, E, A, nL, cells, slots, Q, ad, K⟩ := X
  obtain ⟨hx, hb, -⟩ := C
  intro H locs ls hR hS hL
  have k' := k H locs ls hR hS hL
  rcases d with ⟨d, rfl⟩ | ⟨j, d, rfl, rfl⟩
  · exact lv_aload hx hb d (ga_lget hL hl) k'
  · exact lv_aload_n hx hb d rfl (ga_lget hL hl) k'
theorem ga_istore {i : Nat} {x : Int} (C : ga_C X cc own dp) (d : gd_istore cc pc i pc') (hl : lv.set i (some (.inl x)) = lv') (hi : i < lv.length) (k : ga_W X M pc' lv' st) : ga_W X M pc lv (.inl x :: st) := by
  obtain ⟨p, l, e, R, s, m, args, below, meth, c, D, E, A, nL, cells, slots, Q, ad, K⟩ := X
  obtain ⟨hx, hb, -⟩ := C
  intro H locs ls hR hS hL
  rcases d with ⟨d, rfl⟩ | ⟨j, d, rfl, rfl⟩
  · exact lv_istore hx hb d hL.has (by have := hL.2.2.1; omega) rfl (fun ls' h' => k H locs ls' hR hS (ga_L.store hL.2.2.1 (v := .inl x) hl h'))
  · exact lv_istore_n hx hb d rfl hL.has (by have := hL.2.2.1; omega) rfl (fun ls' h' => k H locs ls' hR hS (ga_L.store hL.2.2.1 (v := .inl x) hl h'))
theorem ga_astore {i x : Nat} (C : ga_C X cc own dp) (d : gd_astore cc pc i pc') (hl : lv.set i (some (.inr (some x))) = lv') (hi : i < lv.length) (k : ga_W X M pc' lv' st) : ga_W X M pc lv (.inr (some x) :: st) := by
  obtain ⟨p, l, e, R, s, m, args, below, meth, c, D, E, A, nL, cells, slots, Q, ad, K⟩ := X
  obtain ⟨hx, hb, -⟩ := C
  intro H locs ls hR hS hL
  rcases d with ⟨d, rfl⟩ | ⟨j, d, rfl, rfl⟩
  · exact lv_astore (x := ad x) hx hb d hL.has (by have := hL.2.2.1; omega) rfl (fun ls' h' => k H locs ls' hR hS (ga_L.store hL.2.2.1 (v := .inr (some x)) hl h'))
  · exact lv_astore_n (x := ad x) hx hb d rfl hL.has (by have := hL.2.2.1; omega) rfl (fun ls' h' => k H locs ls' hR hS (ga_L.store hL.2.2.1 (v := .inr (some x)) hl h'))
theorem ga_iinc {i : Nat} {n x : Int} (C : ga_C X cc own dp) (d : gd cc pc (.iinc i n) 3 pc') (h0 : lv[i]? = some (some (.inl x))) (hl : lv.set i (some (.inl (x + n))) = lv') (hi : i < lv.length) (k : ga_W X M pc' lv' st) : ga_W X M pc lv st := by
  obtain ⟨p, l, e, R, s, m, args, below, meth, c, D, E, A, nL, cells, slots, Q, ad, K⟩ := X
  obtain ⟨hx, hb, -⟩ := C
  obtain ⟨d, rfl⟩ := d
  intro H locs ls hR hS hL
  have hm := ga_pr_in ad lv 0 i _ h0
  rw [Nat.zero_add] at hm
  obtain ⟨kk, hkk⟩ := List.getElem?_of_mem hm
  exact lv_iinc (x := Int32.ofInt x) (v := Int32.ofInt (x + n)) hx hb d hL.has hkk (by rw [Int32.ofInt_add]) (by have := hL.2.2.1; omega) rfl (fun ls' h' => k H locs ls' hR hS (ga_L.store hL.2.2.1 (v := .inl (x + n)) hl h'))
theorem ga_push {v : Int} (C : ga_C X cc own dp) (d : gd_push cc pc v pc') (k : ga_W X M pc' lv (.inl v :: st)) : ga_W X M pc lv st := by
  obtain ⟨p, l, e, R, s, m, args, below, meth, c, D, E, A, nL, cells, slots, Q, ad, K⟩ := X
  obtain ⟨hx, hb, -⟩ := C
  intro H locs ls hR hS hL
  have k' := k H locs ls hR hS hL
  rcases d with ⟨d, rfl⟩ | ⟨d, hv, rfl⟩ | ⟨d, hv, rfl⟩
  · exact lv_iconst hx hb d rfl k'
  · exact lv_bipush hx hb d hv k'
  · exact lv_sipush hx hb d hv k'
theorem ga_ldc {idx : Nat} {v : Int} (C : ga_C X cc own dp) (hw : Cond.constant own idx (Int32.ofInt v) ∈ gaTb) (d : gd cc pc (.ldc idx) 2 pc') (k : ga_W X M pc' lv (.inl v :: st)) : ga_W X M pc lv st := by
  obtain ⟨p, l, e, R, s, m, args, below, meth, c, D, E, A, nL, cells, slots, Q, ad, K⟩ := X
  obtain ⟨hx, hb, -, hown, hts, -⟩ := C
  obtain ⟨d, rfl⟩ := d
  intro H locs ls hR hS hL
  exact lv_ldc hx hb hown (hts _ hw) d (k H locs ls hR hS hL)
theorem ga_iadd {x y : Int} (C : ga_C X cc own dp) (d : gd cc pc .iadd 1 pc') (k : ga_W X M pc' lv (.inl (x + y) :: st)) : ga_W X M pc lv (.inl y :: .inl x :: st) := by
  obtain ⟨p, l, e, R, s, m, args, below, meth, c, D, E, A, nL, cells, slots, Q, ad, K⟩ := X
  obtain ⟨hx, hb, -⟩ := C
  obtain ⟨d, rfl⟩ := d
  intro H locs ls hR hS hL
  have k' := k H locs ls hR hS hL
  simp only [List.map_cons, ga_cv, Int32.ofInt_add] at k' ⊢
  exact lv_iadd hx hb d k'
theorem ga_isub {x y : Int} (C : ga_C X cc own dp) (d : gd cc pc .isub 1 pc') (k : ga_W X M pc' lv (.inl (x - y) :: st)) : ga_W X M pc lv (.inl y :: .inl x :: st) := by
  obtain ⟨p, l, e, R, s, m, args, below, meth, c, D, E, A, nL, cells, slots, Q, ad, K⟩ := X
  obtain ⟨hx, hb, -⟩ := C
  obtain ⟨d, rfl⟩ := d
  intro H locs ls hR hS hL
  have k' := k H locs ls hR hS hL
  simp only [List.map_cons, ga_cv, Int32.ofInt_sub] at k' ⊢
  exact lv_isub hx hb d k'
theorem ga_imul {x y : Int} (C : ga_C X cc own dp) (d : gd cc pc .imul 1 pc') (k : ga_W X M pc' lv (.inl (x * y) :: st)) : ga_W X M pc lv (.inl y :: .inl x :: st) := by
  obtain ⟨p, l, e, R, s, m, args, below, meth, c, D, E, A, nL, cells, slots, Q, ad, K⟩ := X
  obtain ⟨hx, hb, -⟩ := C
  obtain ⟨d, rfl⟩ := d
  intro H locs ls hR hS hL
  have k' := k H locs ls hR hS hL
  simp only [List.map_cons, ga_cv, Int32.ofInt_mul] at k' ⊢
  exact lv_imul hx hb d k'
theorem ga_nat {x : Int} (h : 0 ≤ x) : Int32.ofInt x = nI x.toNat := by
  conv => lhs; rw [← Int.toNat_of_nonneg h]
  exact Int32.ofInt_eq_ofNat
theorem ga_idiv {x y : Int} (C : ga_C X cc own dp) (d : gd cc pc .idiv 1 pc') (hx0 : 0 ≤ x ∧ x ≤ 2147483647) (hy0 : 0 < y ∧ y ≤ 2147483647) (k : ga_W X M pc' lv (.inl (x / y) :: st)) : ga_W X M pc lv (.inl y :: .inl x :: st) := by
  obtain ⟨p, l, e, R, s, m, args, below, meth, c, D, E, A, nL, cells, slots, Q, ad, K⟩ := X
  obtain ⟨hx, hb, -⟩ := C
  obtain ⟨d, rfl⟩ := d
  intro H locs ls hR hS hL
  have k' := k H locs ls hR hS hL
  have hq : 0 ≤ x / y := Int.ediv_nonneg hx0.1 (by omega)
  simp only [List.map_cons, ga_cv] at k' ⊢
  have e1 : Int32.ofInt (x / y) = Int32.ofInt x / Int32.ofInt y := by
    rw [ga_nat hx0.1, ga_nat (show 0 ≤ y by omega), ga_nat hq, pk_div (by omega) (by omega) (by omega)]
    congr 1
    have e9 : x / y = ((x.toNat / y.toNat : Nat) : Int) := by rw [Int.natCast_ediv, Int.toNat_of_nonneg hx0.1, Int.toNat_of_nonneg (by omega)]
    rw [e9, Int.toNat_natCast]
  rw [e1] at k'
  exact lv_idiv hx hb d (by rw [ga_nat (show 0 ≤ y by omega)]; exact nI_ne0 (by omega) (by omega)) k'
theorem ga_irem {x y : Int} (C : ga_C X cc own dp) (d : gd cc pc .irem 1 pc') (hx0 : 0 ≤ x ∧ x ≤ 2147483647) (hy0 : 0 < y ∧ y ≤ 2147483647) (k : ga_W X M pc' lv (.inl (x % y) :: st)) : ga_W X M pc lv (.inl y :: .inl x :: st) := by
  obtain ⟨p, l, e, R, s, m, args, below, meth, c, D, E, A, nL, cells, slots, Q, ad, K⟩ := X
  obtain ⟨hx, hb, -⟩ := C
  obtain ⟨d, rfl⟩ := d
  intro H locs ls hR hS hL
  have k' := k H locs ls hR hS hL
  have hq : 0 ≤ x % y := Int.emod_nonneg x (by omega)
  simp only [List.map_cons, ga_cv] at k' ⊢
  have e1 : Int32.ofInt (x % y) = Int32.ofInt x - Int32.ofInt x / Int32.ofInt y * Int32.ofInt y := by
    rw [ga_nat hx0.1, ga_nat (show 0 ≤ y by omega), ga_nat hq, pk_rem (by omega) (by omega) (by omega)]
    congr 1
    have e9 : x % y = ((x.toNat % y.toNat : Nat) : Int) := by rw [Int.natCast_emod, Int.toNat_of_nonneg hx0.1, Int.toNat_of_nonneg (by omega)]
    rw [e9, Int.toNat_natCast]
  rw [e1] at k'
  exact lv_irem hx hb d (by rw [ga_nat (show 0 ≤ y by omega)]; exact nI_ne0 (by omega) (by omega)) k'
theorem ga_dup {v : gaV} (C : ga_C X cc own dp) (d : gd cc pc .dup 1 pc') (k : ga_W X M pc' lv (v :: v :: st)) : ga_W X M pc lv (v :: st) := by
  obtain ⟨p, l, e, R, s, m, args, below, meth, c, D, E, A, nL, cells, slots, Q, ad, K⟩ := X
  obtain ⟨hx, hb, -⟩ := C
  obtain ⟨d, rfl⟩ := d
  intro H locs ls hR hS hL
  exact lv_dup hx hb d (ga_cat ad v) (k H locs ls hR hS hL)
theorem ga_dup2 {v w : gaV} (C : ga_C X cc own dp) (d : gd cc pc .dup2 1 pc') (k : ga_W X M pc' lv (v :: w :: v :: w :: st)) : ga_W X M pc lv (v :: w :: st) := by
  obtain ⟨p, l, e, R, s, m, args, below, meth, c, D, E, A, nL, cells, slots, Q, ad, K⟩ := X
  obtain ⟨hx, hb, -⟩ := C
  obtain ⟨d, rfl⟩ := d
  intro H locs ls hR hS hL
  exact lv_dup2_11 hx hb d (ga_cat ad v) (ga_cat ad w) (k H locs ls hR hS hL)
theorem ga_dup_x1 {v w : gaV} (C : ga_C X cc own dp) (d : gd cc pc .dup_x1 1 pc') (k : ga_W X M pc' lv (v :: w :: v :: st)) : ga_W X M pc lv (v :: w :: st) := by
  obtain ⟨p, l, e, R, s, m, args, below, meth, c, D, E, A, nL, cells, slots, Q, ad, K⟩ := X
  obtain ⟨hx, hb, -⟩ := C
  obtain ⟨d, rfl⟩ := d
  intro H locs ls hR hS hL
  exact lv_dup_x1 hx hb d (ga_cat ad v) (ga_cat ad w) (k H locs ls hR hS hL)
theorem ga_pop {v : gaV} (C : ga_C X cc own dp) (d : gd cc pc .pop 1 pc') (k : ga_W X M pc' lv st) : ga_W X M pc lv (v :: st) := by
  obtain ⟨p, l, e, R, s, m, args, below, meth, c, D, E, A, nL, cells, slots, Q, ad, K⟩ := X
  obtain ⟨hx, hb, -⟩ := C
  obtain ⟨d, rfl⟩ := d
  intro H locs ls hR hS hL
  exact lv_pop hx hb d (ga_cat ad v) (k H locs ls hR hS hL)
theorem ga_goto (C : ga_C X cc own dp) (d : gd_b cc pc .goto tgt pc') (k : ga_W X M tgt lv st) : ga_W X M pc lv st := by
  obtain ⟨p, l, e, R, s, m, args, below, meth, c, D, E, A, nL, cells, slots, Q, ad, K⟩ := X
  obtain ⟨hx, hb, -⟩ := C
  obtain ⟨off, d, ht, rfl⟩ := d
  intro H locs ls hR hS hL
  exact lv_goto hx hb d ht (k H locs ls hR hS hL)
theorem ok_le {x y : Int} (hx : ok x) (hy : ok y) : Int32.ofInt x ≤ Int32.ofInt y ↔ x ≤ y := by
  rw [Int32.le_iff_toInt_le, Int32.toInt_ofInt_of_le (by have := hx.1; omega) (by have := hx.2; omega), Int32.toInt_ofInt_of_le (by have := hy.1; omega) (by have := hy.2; omega)]
theorem ok_lt {x y : Int} (hx : ok x) (hy : ok y) : Int32.ofInt x < Int32.ofInt y ↔ x < y := by
  rw [Int32.lt_iff_toInt_lt, Int32.toInt_ofInt_of_le (by have := hx.1; omega) (by have := hx.2; omega), Int32.toInt_ofInt_of_le (by have := hy.1; omega) (by have := hy.2; omega)]
theorem ok_eq {x y : Int} (hx : ok x) (hy : ok y) : Int32.ofInt x = Int32.ofInt y ↔ x = y := by
  rw [← Int32.toInt_inj, Int32.toInt_ofInt_of_le (by have := hx.1; omega) (by have := hx.2; omega), Int32.toInt_ofInt_of_le (by have := hy.1; omega) (by have := hy.2; omega)]
theorem ok_0 : ok 0 := by decide
theorem ga_icmp_eq {x y : Int} (C : ga_C X cc own dp) (d : gd_b cc pc (.if_icmp .eq) tgt pc') (hox : ok x) (hoy : ok y) (kt : x = y → ga_W X M tgt lv st) (kf : ¬ x = y → ga_W X M pc' lv st) : ga_W X M pc lv (.inl y :: .inl x :: st) := by
  obtain ⟨p, l, e, R, s, m, args, below, meth, c, D, E, A, nL, cells, slots, Q, ad, K⟩ := X
  obtain ⟨hx, hb, -⟩ := C
  obtain ⟨off, d, ht, rfl⟩ := d
  intro H locs ls hR hS hL
  exact lv_icmp_eq hx hb d ht (fun h => kt ((ok_eq hox hoy).mp h) H locs ls hR hS hL) (fun h => kf (fun q => h ((ok_eq hox hoy).mpr q)) H locs ls hR hS hL)
theorem ga_icmp_ne {x y : Int} (C : ga_C X cc own dp) (d : gd_b cc pc (.if_icmp .ne) tgt pc') (hox : ok x) (hoy : ok y) (kt : x = y → ga_W X M pc' lv st) (kf : ¬ x = y → ga_W X M tgt lv st) : ga_W X M pc lv (.inl y :: .inl x :: st) := by
  obtain ⟨p, l, e, R, s, m, args, below, meth, c, D, E, A, nL, cells, slots, Q, ad, K⟩ := X
  obtain ⟨hx, hb, -⟩ := C
  obtain ⟨off, d, ht, rfl⟩ := d
  intro H locs ls hR hS hL
  exact lv_icmp_ne hx hb d ht (fun h => kf (fun q => h ((ok_eq hox hoy).mpr q)) H locs ls hR hS hL) (fun h => kt ((ok_eq hox hoy).mp h) H locs ls hR hS hL)
theorem ga_icmp_lt {x y : Int} (C : ga_C X cc own dp) (d : gd_b cc pc (.if_icmp .lt) tgt pc') (hox : ok x) (hoy : ok y) (kt : y ≤ x → ga_W X M pc' lv st) (kf : ¬ y ≤ x → ga_W X M tgt lv st) : ga_W X M pc lv (.inl y :: .inl x :: st) := by
  obtain ⟨p, l, e, R, s, m, args, below, meth, c, D, E, A, nL, cells, slots, Q, ad, K⟩ := X
  obtain ⟨hx, hb, -⟩ := C
  obtain ⟨off, d, ht, rfl⟩ := d
  intro H locs ls hR hS hL
  exact lv_icmp_lt hx hb d ht (fun h => kf (by have := (ok_lt hox hoy).mp h; omega) H locs ls hR hS hL) (fun h => kt (by have h9 := mt (ok_lt hox hoy).mpr h; omega) H locs ls hR hS hL)
theorem ga_icmp_ge {x y : Int} (C : ga_C X cc own dp) (d : gd_b cc pc (.if_icmp .ge) tgt pc') (hox : ok x) (hoy : ok y) (kt : x < y → ga_W X M pc' lv st) (kf : ¬ x < y → ga_W X M tgt lv st) : ga_W X M pc lv (.inl y :: .inl x :: st) := by
  obtain ⟨p, l, e, R, s, m, args, below, meth, c, D, E, A, nL, cells, slots, Q, ad, K⟩ := X
  obtain ⟨hx, hb, -⟩ := C
  obtain ⟨off, d, ht, rfl⟩ := d
  intro H locs ls hR hS hL
  exact lv_icmp_ge hx hb d ht (fun h => kf (by have := (ok_le hoy hox).mp h; omega) H locs ls hR hS hL) (fun h => kt (by have h9 := mt (ok_le hoy hox).mpr h; omega) H locs ls hR hS hL)
theorem ga_icmp_gt {x y : Int} (C : ga_C X cc own dp) (d : gd_b cc pc (.if_icmp .gt) tgt pc') (hox : ok x) (hoy : ok y) (kt : x ≤ y → ga_W X M pc' lv st) (kf : ¬ x ≤ y → ga_W X M tgt lv st) : ga_W X M pc lv (.inl y :: .inl x :: st) := by
  obtain ⟨p, l, e, R, s, m, args, below, meth, c, D, E, A, nL, cells, slots, Q, ad, K⟩ := X
  obtain ⟨hx, hb, -⟩ := C
  obtain ⟨off, d, ht, rfl⟩ := d
  intro H locs ls hR hS hL
  exact lv_icmp_gt hx hb d ht (fun h => kf (by have := (ok_lt hoy hox).mp h; omega) H locs ls hR hS hL) (fun h => kt (by have h9 := mt (ok_lt hoy hox).mpr h; omega) H locs ls hR hS hL)
theorem ga_icmp_le {x y : Int} (C : ga_C X cc own dp) (d : gd_b cc pc (.if_icmp .le) tgt pc') (hox : ok x) (hoy : ok y) (kt : y < x → ga_W X M pc' lv st) (kf : ¬ y < x → ga_W X M tgt lv st) : ga_W X M pc lv (.inl y :: .inl x :: st) := by
  obtain ⟨p, l, e, R, s, m, args, below, meth, c, D, E, A, nL, cells, slots, Q, ad, K⟩ := X
  obtain ⟨hx, hb, -⟩ := C
  obtain ⟨off, d, ht, rfl⟩ := d
  intro H locs ls hR hS hL
  exact lv_icmp_le hx hb d ht (fun h => kf (by have := (ok_le hox hoy).mp h; omega) H locs ls hR hS hL) (fun h => kt (by have h9 := mt (ok_le hox hoy).mpr h; omega) H locs ls hR hS hL)
theorem ga_if_eq {x : Int} (C : ga_C X cc own dp) (d : gd_b cc pc (.ifCond .eq) tgt pc') (hox : ok x) (kt : x = 0 → ga_W X M tgt lv st) (kf : ¬ x = 0 → ga_W X M pc' lv st) : ga_W X M pc lv (.inl x :: st) := by
  obtain ⟨p, l, e, R, s, m, args, below, meth, c, D, E, A, nL, cells, slots, Q, ad, K⟩ := X
  obtain ⟨hx, hb, -⟩ := C
  obtain ⟨off, d, ht, rfl⟩ := d
  intro H locs ls hR hS hL
  exact lv_if_eq hx hb d ht (fun h => kt ((ok_eq hox ok_0).mp h) H locs ls hR hS hL) (fun h => kf (fun q => h ((ok_eq hox ok_0).mpr q)) H locs ls hR hS hL)
theorem ga_if_ne {x : Int} (C : ga_C X cc own dp) (d : gd_b cc pc (.ifCond .ne) tgt pc') (hox : ok x) (kt : x = 0 → ga_W X M pc' lv st) (kf : ¬ x = 0 → ga_W X M tgt lv st) : ga_W X M pc lv (.inl x :: st) := by
  obtain ⟨p, l, e, R, s, m, args, below, meth, c, D, E, A, nL, cells, slots, Q, ad, K⟩ := X
  obtain ⟨hx, hb, -⟩ := C
  obtain ⟨off, d, ht, rfl⟩ := d
  intro H locs ls hR hS hL
  exact lv_if_ne hx hb d ht (fun h => kf (fun q => h ((ok_eq hox ok_0).mpr q)) H locs ls hR hS hL) (fun h => kt ((ok_eq hox ok_0).mp h) H locs ls hR hS hL)
theorem ga_if_lt {x : Int} (C : ga_C X cc own dp) (d : gd_b cc pc (.ifCond .lt) tgt pc') (hox : ok x) (kt : 0 ≤ x → ga_W X M pc' lv st) (kf : ¬ 0 ≤ x → ga_W X M tgt lv st) : ga_W X M pc lv (.inl x :: st) := by
  obtain ⟨p, l, e, R, s, m, args, below, meth, c, D, E, A, nL, cells, slots, Q, ad, K⟩ := X
  obtain ⟨hx, hb, -⟩ := C
  obtain ⟨off, d, ht, rfl⟩ := d
  intro H locs ls hR hS hL
  exact lv_if_lt hx hb d ht (fun h => kf (by have := (ok_lt hox ok_0).mp h; omega) H locs ls hR hS hL) (fun h => kt (by have h9 := mt (ok_lt hox ok_0).mpr h; omega) H locs ls hR hS hL)
theorem ga_if_ge {x : Int} (C : ga_C X cc own dp) (d : gd_b cc pc (.ifCond .ge) tgt pc') (hox : ok x) (kt : x < 0 → ga_W X M pc' lv st) (kf : ¬ x < 0 → ga_W X M tgt lv st) : ga_W X M pc lv (.inl x :: st) := by
  obtain ⟨p, l, e, R, s, m, args, below, meth, c, D, E, A, nL, cells, slots, Q, ad, K⟩ := X
  obtain ⟨hx, hb, -⟩ := C
  obtain ⟨off, d, ht, rfl⟩ := d
  intro H locs ls hR hS hL
  exact lv_if_ge hx hb d ht (fun h => kf (by have := (ok_le ok_0 hox).mp h; omega) H locs ls hR hS hL) (fun h => kt (by have h9 := mt (ok_le ok_0 hox).mpr h; omega) H locs ls hR hS hL)
theorem ga_if_gt {x : Int} (C : ga_C X cc own dp) (d : gd_b cc pc (.ifCond .gt) tgt pc') (hox : ok x) (kt : x ≤ 0 → ga_W X M pc' lv st) (kf : ¬ x ≤ 0 → ga_W X M tgt lv st) : ga_W X M pc lv (.inl x :: st) := by
  obtain ⟨p, l, e, R, s, m, args, below, meth, c, D, E, A, nL, cells, slots, Q, ad, K⟩ := X
  obtain ⟨hx, hb, -⟩ := C
  obtain ⟨off, d, ht, rfl⟩ := d
  intro H locs ls hR hS hL
  exact lv_if_gt hx hb d ht (fun h => kf (by have := (ok_lt ok_0 hox).mp h; omega) H locs ls hR hS hL) (fun h => kt (by have h9 := mt (ok_lt ok_0 hox).mpr h; omega) H locs ls hR hS hL)
theorem ga_if_le {x : Int} (C : ga_C X cc own dp) (d : gd_b cc pc (.ifCond .le) tgt pc') (hox : ok x) (kt : 0 < x → ga_W X M pc' lv st) (kf : ¬ 0 < x → ga_W X M tgt lv st) : ga_W X M pc lv (.inl x :: st) := by
  obtain ⟨p, l, e, R, s, m, args, below, meth, c, D, E, A, nL, cells, slots, Q, ad, K⟩ := X
  obtain ⟨hx, hb, -⟩ := C
  obtain ⟨off, d, ht, rfl⟩ := d
  intro H locs ls hR hS hL
  exact lv_if_le hx hb d ht (fun h => kf (by have := (ok_le hox ok_0).mp h; omega) H locs ls hR hS hL) (fun h => kt (by have h9 := mt (ok_le hox ok_0).mpr h; omega) H locs ls hR hS hL)
theorem ga_tabIn {dflt lo hi off : Int} {offs : Array Int} {len : Nat} {x : Int} (v : Int) (C : ga_C X cc own dp) (d : decode cc pc = .ok (.tableswitch dflt lo hi offs, len)) (hv : x = v) (ho : ok v) (h1 : ¬ v < lo ∧ ¬ hi < v) (hof : offs[(v - lo).toNat]? = some off) (ht : (pc : Int) + off = (tgt : Int)) (k : ga_W X M tgt lv st) : ga_W X M pc lv (.inl x :: st) := by
  obtain ⟨p, l, e, R, s, m, args, below, meth, c, D, E, A, nL, cells, slots, Q, ad, K⟩ := X
  obtain ⟨hx, hb, -⟩ := C
  subst hv
  have e1 : (Int32.ofInt x).toInt = x := Int32.toInt_ofInt_of_le (by have := ho.1; omega) (by have := ho.2; omega)
  intro H locs ls hR hS hL
  exact lv_tableIn hx hb d (by rw [e1]; exact h1.1) (by rw [e1]; exact h1.2) (by rw [e1]; exact hof) ht (k H locs ls hR hS hL)
theorem ga_tabOut {dflt lo hi : Int} {offs : Array Int} {len : Nat} {x : Int} (C : ga_C X cc own dp) (d : decode cc pc = .ok (.tableswitch dflt lo hi offs, len)) (ho : ok x) (h1 : x < lo ∨ hi < x) (ht : (pc : Int) + dflt = (tgt : Int)) (k : ga_W X M tgt lv st) : ga_W X M pc lv (.inl x :: st) := by
  obtain ⟨p, l, e, R, s, m, args, below, meth, c, D, E, A, nL, cells, slots, Q, ad, K⟩ := X
  obtain ⟨hx, hb, -⟩ := C
  have e1 : (Int32.ofInt x).toInt = x := Int32.toInt_ofInt_of_le (by have := ho.1; omega) (by have := ho.2; omega)
  intro H locs ls hR hS hL
  exact lv_tableOut hx hb d (by rw [e1]; exact h1) ht (k H locs ls hR hS hL)
-- fields
def ga_fld (own : String) (idx ci k : Nat) : Prop := ∃ (q : vw_C) (ref : String), gaT[ci]? = some q ∧ k < q.2.2 ∧ Cond.fieldLink own idx ref (q.2.1 k).2.1 (q.2.1 k).2.2.1 ∈ gaTb ∧ (ref = (q.2.1 k).1 ∨ Cond.sameField ref (q.2.1 k).1 (q.2.1 k).2.1 (q.2.1 k).2.2.1 ∈ gaTb)
theorem ga_get0 {idx ci k id : Nat} {rf : Nat → Option (Option Nat)} {K : gaK} {v : gaV} (C : ga_C X cc own dp) (hK : ga_K X = K) (d : gd cc pc (.getfield idx) 3 pc') (f : ga_fld own idx ci k) (hk : K id = some (.inr (.inl (ci, rf)))) (hv : ∀ ad, ga_F ad M id rf k = ga_cv ad v) (kk : ga_W X M pc' lv (v :: st)) : ga_W X M pc lv (.inr (some id) :: st) := by
  obtain ⟨p, l, e, R, s, m, args, below, meth, c, D, E, A, nL, cells, slots, Q, ad, K'⟩ := X
  obtain ⟨hx, hb, -, hown, hts, hKK, -⟩ := C
  obtain ⟨d, rfl⟩ := d
  obtain ⟨q, ref, hq, hkN, hl, hsame⟩ := f
  have hK : K' = K := hK
  subst hK
  intro H locs ls hR hS hL
  obtain ⟨q', hq', cell, q1, q2, q3, q4⟩ := hR.1 id _ hk
  cases hq.symm.trans hq'
  obtain ⟨hS1, hfc, kC, hkC, hkind⟩ := hKK.1 ci q hq
  obtain ⟨cf, kf, fi, fd, hi, hsl⟩ := hS1 k hkN
  have hi' : s.fieldFound? ref (q.2.1 k).2.1 (q.2.1 k).2.2.1 = some (cf, kf, fi, fd) := by
    rcases hsame with h | h
    · rw [h]; exact hi
    · exact u_same (hts _ h) _ hi
  refine W.getf hx hb hown (hts _ hl) hi' (u_facts hfc hkC (u_lays hts (gaT_in ci q hq) hkN) hi).1 q1 (by rw [q3]; exact fun h => by cases h) (v := ga_cv ad v) ?_ rfl rfl d (kk H locs ls hR hS hL)
  rw [hsl, q4 k hkN, hv ad]
theorem ga_getI {idx ci k id : Nat} {rf : Nat → Option (Option Nat)} {K : gaK} (C : ga_C X cc own dp) (hK : ga_K X = K) (d : gd cc pc (.getfield idx) 3 pc') (f : ga_fld own idx ci k) (hk : K id = some (.inr (.inl (ci, rf)))) (hr : rf k = none) (kk : ga_W X M pc' lv (.inl (M id k) :: st)) : ga_W X M pc lv (.inr (some id) :: st) :=
  ga_get0 C hK d f hk (fun ad => by unfold ga_F; rw [hr]; rfl) kk
theorem ga_getR {idx ci k id : Nat} {rf : Nat → Option (Option Nat)} {K : gaK} {r : Option Nat} (C : ga_C X cc own dp) (hK : ga_K X = K) (d : gd cc pc (.getfield idx) 3 pc') (f : ga_fld own idx ci k) (hk : K id = some (.inr (.inl (ci, rf)))) (hr : rf k = some r) (kk : ga_W X M pc' lv (.inr r :: st)) : ga_W X M pc lv (.inr (some id) :: st) :=
  ga_get0 C hK d f hk (fun ad => by unfold ga_F; rw [hr]; rfl) kk
theorem ga_putI {idx ci k id : Nat} {rf : Nat → Option (Option Nat)} {K : gaK} {x : Int} (C : ga_C X cc own dp) (hK : ga_K X = K) (d : gd cc pc (.putfield idx) 3 pc') (f : ga_fld own idx ci k) (hw : ∀ q, gaT[ci]? = some q → (q.2.1 k).2.2.2 = false ∧ gaTy ci k = .int) (hk : K id = some (.inr (.inl (ci, rf)))) (hr : rf k = none) {M1 : gaM} (eM : M1 = ga_st M id k x) (kk : ga_W X M1 pc' lv st) : ga_W X M pc lv (.inl x :: .inr (some id) :: st) := by
  subst eM
  obtain ⟨p, l, e, R, s, m, args, below, meth, c, D, E, A, nL, cells, slots, Q, ad, K'⟩ := X
  obtain ⟨hx, hb, -, hown, hts, hKK, -, hA, -⟩ := C
  obtain ⟨d, rfl⟩ := d
  obtain ⟨q, ref, hq, hkN, hl, hsame⟩ := f
  have hK : K' = K := hK
  subst hK
  intro H locs ls hR hS hL
  obtain ⟨q', hq', cell, q1, q2, q3, q4⟩ := hR.1 id _ hk
  cases hq.symm.trans hq'
  obtain ⟨hS1, hfc, kC, hkC, hkind⟩ := hKK.1 ci q hq
  obtain ⟨cf, kf, fi, fd, hi, hsl⟩ := hS1 k hkN
  have hi' : s.fieldFound? ref (q.2.1 k).2.1 (q.2.1 k).2.2.1 = some (cf, kf, fi, fd) := by
    rcases hsame with h | h
    · rw [h]; exact hi
    · exact u_same (hts _ h) _ hi
  have hlay := hts _ (gaT_in ci q hq _ (u_in_lay hkN))
  unfold u_lay at hlay
  rw [if_neg (by rw [(hw q hq).1]; decide)] at hlay
  have hst := (u_facts hfc hkC (u_lays hts (gaT_in ci q hq) hkN) hi).1
  have hd := gaT_ty ci q hq k hkN
  rw [(hw q hq).2] at hd
  have h6 := u_store (v := .int (Int32.ofInt x)) hfc hkC hkind hlay hi hd (vp_nar_int _) rfl
  have hap := va_apart (own := own) (args := args) hts (gaT_in ci q hq) (gaTy ci) (gaT_ty ci q hq) (gaT_nm ci q hq) hKK hq
  refine W.putK hx hb (f := fd) ⟨hown, hts _ hl, ⟨_, _, _, hi'⟩, hst⟩ (by rw [q2]; exact h6) q1 q3 (by rw [hsl]; exact k2_hasslot (q4 k hkN)) rfl rfl d fun H' e1 e2 e3 => ?_
  rw [hsl] at e1 ⊢
  refine kk H' _ ls (hR.put hk e3 (fun j hj => ga_st_row j hj) ⟨q, hq, t_OB.to (V := updV (ga_F ad M id rf) k (.int (Int32.ofInt x))) ⟨_, e1, q2, q3, t_set q4 hap hkN _⟩ (fun j _ => ?_)⟩) (hS.put e2 e3 (hA id _ hk ga_wrt_o)) hL
  unfold updV ga_F
  by_cases ej : j = k
  · subst ej
    rw [if_pos rfl, hr]
    simp [ga_st_self]
  · rw [if_neg ej]
    cases rf j with
    | none => simp [ga_st, ej]
    | some r => rfl
-- arrays
theorem ga_ix {i : Int} {n : Nat} (h : ix i n) (hn : n ≤ 2147483647) : ¬ (Int32.ofInt i < 0 ∨ n ≤ (Int32.ofInt i).toNatClampNeg) ∧ (Int32.ofInt i).toNatClampNeg = i.toNat := by
  obtain ⟨h1, h2⟩ := h
  have hc : (Int32.ofInt i).toNatClampNeg = i.toNat := Int32.toNatClampNeg_ofInt_of_le (by omega) (by omega)
  refine ⟨?_, hc⟩
  rw [hc]
  rintro (h | h)
  · have := (ok_lt (x := i) (y := 0) ⟨by omega, by omega⟩ ok_0).mp h
    omega
  · omega
theorem ga_iald {id n : Nat} {i : Int} {K : gaK} (C : ga_C X cc own dp) (hK : ga_K X = K) (d : gd cc pc .iaload 1 pc') (hk : K id = some (.inl n)) (hn : n ≤ 2147483647) (hi : ix i n) (kk : ga_W X M pc' lv (.inl (M id i.toNat) :: st)) : ga_W X M pc lv (.inl i :: .inr (some id) :: st) := by
  obtain ⟨p, l, e, R, s, m, args, below, meth, c, D, E, A, nL, cells, slots, Q, ad, K'⟩ := X
  obtain ⟨hx, hb, -, hown, hts, hKK, -⟩ := C
  obtain ⟨d, rfl⟩ := d
  have hK : K' = K := hK
  subst hK
  obtain ⟨g1, g2⟩ := ga_ix hi hn
  intro H locs ls hR hS hL
  refine W.iald (v := .int (Int32.ofInt (M id i.toNat))) hx hb (hR.1 id _ hk) ((hKK.2 0 _ rfl).1 n _) (fun q => by cases q) (by show ¬ (Int32.ofInt i < 0 ∨ (arrV _ _ _).slots.size ≤ _); rw [arrV_size]; exact g1) ?_ rfl rfl d (kk H locs ls hR hS hL)
  rw [g2, arrV_read _ _ (by obtain ⟨h1, h2⟩ := hi; omega)]
theorem ga_iast {id n : Nat} {i x : Int} {K : gaK} (C : ga_C X cc own dp) (hK : ga_K X = K) (d : gd cc pc .iastore 1 pc') (hk : K id = some (.inl n)) (hn : n ≤ 2147483647) (hi : ix i n) {M1 : gaM} (eM : M1 = ga_st M id i.toNat x) (kk : ga_W X M1 pc' lv st) : ga_W X M pc lv (.inl x :: .inl i :: .inr (some id) :: st) := by
  subst eM
  obtain ⟨p, l, e, R, s, m, args, below, meth, c, D, E, A, nL, cells, slots, Q, ad, K'⟩ := X
  obtain ⟨hx, hb, -, hown, hts, hKK, -, hA, -⟩ := C
  obtain ⟨d, rfl⟩ := d
  have hK : K' = K := hK
  subst hK
  obtain ⟨g1, g2⟩ := ga_ix hi hn
  intro H locs ls hR hS hL
  refine W.iast hx hb (hR.1 id _ hk) ((hKK.2 0 _ rfl).1 n _) (fun q => by cases q) (by show ¬ (Int32.ofInt i < 0 ∨ (arrV _ _ _).slots.size ≤ _); rw [arrV_size]; exact g1) rfl rfl d fun H1 e1 z oq => ?_
  refine kk H1 _ ls (hR.put hk oq (fun j hj => ga_st_row j hj) ?_) (hS.put z oq (hA id _ hk ga_wrt_i)) hL
  show H1[ad id]? = _
  rw [e1, g2, arrV_store]
  congr 2
  funext q
  by_cases hq : q = i.toNat
  · subst hq
    simp [updV, ga_st_self]
  · simp [updV, ga_st, hq]
theorem ga_aald {id t n : Nat} {g : Nat → Option Nat} {i : Int} {K : gaK} (C : ga_C X cc own dp) (hK : ga_K X = K) (d : gd cc pc .aaload 1 pc') (hk : K id = some (.inr (.inr (t, n, g)))) (ht : t = 2 ∨ t = 3) (hn : n ≤ 2147483647) (hi : ix i n) (kk : ga_W X M pc' lv (.inr (g i.toNat) :: st)) : ga_W X M pc lv (.inl i :: .inr (some id) :: st) := by
  obtain ⟨p, l, e, R, s, m, args, below, meth, c, D, E, A, nL, cells, slots, Q, ad, K'⟩ := X
  obtain ⟨hx, hb, -, hown, hts, hKK, -⟩ := C
  obtain ⟨d, rfl⟩ := d
  have hK : K' = K := hK
  subst hK
  obtain ⟨g1, g2⟩ := ga_ix hi hn
  intro H locs ls hR hS hL
  have hv : (arrV (E t) n (ga_G ad M id t g)).slots[(Int32.ofInt i).toNatClampNeg]? = some (va_rf ((g i.toNat).map ad)) := by
    rw [g2, arrV_read _ _ (by obtain ⟨h1, h2⟩ := hi; omega)]
    unfold ga_G
    rw [if_neg (by omega)]
  rcases ht with rfl | rfl
  · exact W.aald (v := va_rf ((g i.toNat).map ad)) (ty := .array .int) hx hb (hR.1 id _ hk) ((hKK.2 2 _ rfl).1 n _) rfl (fun q => by cases q) (by show ¬ (Int32.ofInt i < 0 ∨ (arrV _ _ _).slots.size ≤ _); rw [arrV_size]; exact g1) hv rfl rfl d (kk H locs ls hR hS hL)
  · exact W.aald (v := va_rf ((g i.toNat).map ad)) (ty := .object "java/lang/Object") hx hb (hR.1 id _ hk) ((hKK.2 3 _ rfl).1 n _) rfl (fun q => by cases q) (by show ¬ (Int32.ofInt i < 0 ∨ (arrV _ _ _).slots.size ≤ _); rw [arrV_size]; exact g1) hv rfl rfl d (kk H locs ls hR hS hL)
theorem ga_zald {id n : Nat} {g : Nat → Option Nat} {i : Int} {K : gaK} (C : ga_C X cc own dp) (hK : ga_K X = K) (d : gd cc pc .baload 1 pc') (hk : K id = some (.inr (.inr (1, n, g)))) (hn : n ≤ 2147483647) (hi : ix i n) (kk : ga_W X M pc' lv (.inl (M id i.toNat) :: st)) : ga_W X M pc lv (.inl i :: .inr (some id) :: st) := by
  obtain ⟨p, l, e, R, s, m, args, below, meth, c, D, E, A, nL, cells, slots, Q, ad, K'⟩ := X
  obtain ⟨hx, hb, -, hown, hts, hKK, -⟩ := C
  obtain ⟨d, rfl⟩ := d
  have hK : K' = K := hK
  subst hK
  obtain ⟨g1, g2⟩ := ga_ix hi hn
  intro H locs ls hR hS hL
  refine W.zald (v := .int (Int32.ofInt (M id i.toNat))) hx hb (hR.1 id _ hk) ((hKK.2 1 _ rfl).1 n _) (fun q => by cases q) (by show ¬ (Int32.ofInt i < 0 ∨ (arrV _ _ _).slots.size ≤ _); rw [arrV_size]; exact g1) ?_ rfl rfl d (kk H locs ls hR hS hL)
  rw [g2, arrV_read _ _ (by obtain ⟨h1, h2⟩ := hi; omega)]
  rfl
theorem ga_nz {x : Int} (h : x = 0 ∨ x = 1) : narrow .boolean (.int (Int32.ofInt x)) = .int (Int32.ofInt x) := by
  rcases h with rfl | rfl <;> rfl
theorem ga_zast {id n : Nat} {g : Nat → Option Nat} {i x : Int} {K : gaK} (C : ga_C X cc own dp) (hK : ga_K X = K) (d : gd cc pc .bastore 1 pc') (hk : K id = some (.inr (.inr (1, n, g)))) (hn : n ≤ 2147483647) (hi : ix i n) (hv : x = 0 ∨ x = 1) {M1 : gaM} (eM : M1 = ga_st M id i.toNat x) (kk : ga_W X M1 pc' lv st) : ga_W X M pc lv (.inl x :: .inl i :: .inr (some id) :: st) := by
  subst eM
  obtain ⟨p, l, e, R, s, m, args, below, meth, c, D, E, A, nL, cells, slots, Q, ad, K'⟩ := X
  obtain ⟨hx, hb, -, hown, hts, hKK, -, hA, -⟩ := C
  obtain ⟨d, rfl⟩ := d
  have hK : K' = K := hK
  subst hK
  obtain ⟨g1, g2⟩ := ga_ix hi hn
  intro H locs ls hR hS hL
  refine W.zast hx hb (hR.1 id _ hk) ((hKK.2 1 _ rfl).1 n _) (fun q => by cases q) (by show ¬ (Int32.ofInt i < 0 ∨ (arrV _ _ _).slots.size ≤ _); rw [arrV_size]; exact g1) rfl rfl d fun H1 e1 z oq => ?_
  refine kk H1 _ ls (hR.put hk oq (fun j hj => ga_st_row j hj) ?_) (hS.put z oq (hA id _ hk ga_wrt_z)) hL
  show H1[ad id]? = _
  rw [e1, g2, ga_nz hv, arrV_store]
  congr 2
  funext q
  by_cases hq : q = i.toNat
  · subst hq
    simp [updV, ga_G, ga_st_self]
  · simp [updV, ga_G, ga_st, hq]
theorem ga_alen {id n : Nat} {K : gaK} (C : ga_C X cc own dp) (hK : ga_K X = K) (d : gd cc pc .arraylength 1 pc') (hk : K id = some (.inl n) ∨ ∃ t g, K id = some (.inr (.inr (t, n, g))) ∧ (t = 2 ∨ t = 3)) (kk : ga_W X M pc' lv (.inl (n : Int) :: st)) : ga_W X M pc lv (.inr (some id) :: st) := by
  obtain ⟨p, l, e, R, s, m, args, below, meth, c, D, E, A, nL, cells, slots, Q, ad, K'⟩ := X
  obtain ⟨hx, hb, -, hown, hts, hKK, -⟩ := C
  obtain ⟨d, rfl⟩ := d
  have hK : K' = K := hK
  subst hK
  intro H locs ls hR hS hL
  have k' := kk H locs ls hR hS hL
  simp only [List.map_cons, ga_cv, Int32.ofInt_eq_ofNat] at k'
  rcases hk with hk | ⟨t, g, hk, rfl | rfl⟩
  · exact W.alen (n := Int32.ofNat n) hx hb (hR.1 id _ hk) ((hKK.2 0 _ rfl).1 n _) (by rw [arrV_size]) rfl rfl d k'
  · exact W.alen (n := Int32.ofNat n) hx hb (hR.1 id _ hk) ((hKK.2 2 _ rfl).1 n _) (by rw [arrV_size]) rfl rfl d k'
  · exact W.alen (n := Int32.ofNat n) hx hb (hR.1 id _ hk) ((hKK.2 3 _ rfl).1 n _) (by rw [arrV_size]) rfl rfl d k'
theorem ga_cast {id ci idx : Nat} {rf : Nat → Option (Option Nat)} {q : vw_C} {K : gaK} (C : ga_C X cc own dp) (hK : ga_K X = K) (d : gd cc pc (.checkcast idx) 3 pc') (hw : Cond.classLink own idx q.1 ∈ gaTb) (hq : gaT[ci]? = some q) (hk : K id = some (.inr (.inl (ci, rf)))) (kk : ga_W X M pc' lv (.inr (some id) :: st)) : ga_W X M pc lv (.inr (some id) :: st) := by
  obtain ⟨p, l, e, R, s, m, args, below, meth, c, D, E, A, nL, cells, slots, Q, ad, K'⟩ := X
  obtain ⟨hx, hb, -, hown, hts, hKK, -⟩ := C
  obtain ⟨d, rfl⟩ := d
  have hK : K' = K := hK
  subst hK
  intro H locs ls hR hS hL
  obtain ⟨q', hq', cell, q1, q2, q3, q4⟩ := hR.1 id _ hk
  cases hq.symm.trans hq'
  exact va_castS hx hb hown (hts _ hw) (hKK.1 ci q hq).2 ⟨cell, q1, by rw [q3]; rfl, by rw [q2]; exact (hKK.1 ci q hq).2.1⟩ d (kk H locs ls hR hS hL)
-- returns
theorem ga_iret {v : Int} (C : ga_C X cc own dp) (T : ga_Rt X (some .int) (some (.inl v)) M) (d : gd cc pc .ireturn 1 pc') : ga_W X M pc lv [.inl v] := by
  obtain ⟨p, l, e, R, s, m, args, below, meth, c, D, E, A, nL, cells, slots, Q, ad, K⟩ := X
  obtain ⟨hx, hb, -, hown, hts, hKK, hlk, -⟩ := C
  obtain ⟨hr, hQ⟩ := T
  obtain ⟨d, rfl⟩ := d
  subst hQ
  intro H locs ls hR hS hL
  exact W.iret (v := Int32.ofInt v) hx hb hr (fun t ht hW => ⟨rfl, by rw [ht]; exact hR, va_K.moved hW.alike hKK, hS.F ht⟩) hS.2.2 d hlk
theorem ga_zret {v : Int} (C : ga_C X cc own dp) (T : ga_Rt X (some .boolean) (some (.inl v)) M) (hv : v = 0 ∨ v = 1) (d : gd cc pc .ireturn 1 pc') : ga_W X M pc lv [.inl v] := by
  obtain ⟨p, l, e, R, s, m, args, below, meth, c, D, E, A, nL, cells, slots, Q, ad, K⟩ := X
  obtain ⟨hx, hb, -, hown, hts, hKK, hlk, -⟩ := C
  obtain ⟨hr, hQ⟩ := T
  obtain ⟨d, rfl⟩ := d
  subst hQ
  intro H locs ls hR hS hL
  exact W.zret (v := Int32.ofInt v) hx hb hr (ga_nz hv) (fun t ht hW => ⟨rfl, by rw [ht]; exact hR, va_K.moved hW.alike hKK, hS.F ht⟩) hS.2.2 d hlk
theorem ga_vret (C : ga_C X cc own dp) (T : ga_Rt X none none M) (d : gd cc pc .return_ 1 pc') : ga_W X M pc lv [] := by
  obtain ⟨p, l, e, R, s, m, args, below, meth, c, D, E, A, nL, cells, slots, Q, ad, K⟩ := X
  obtain ⟨hx, hb, -, hown, hts, hKK, hlk, -⟩ := C
  obtain ⟨hr, hQ⟩ := T
  obtain ⟨d, rfl⟩ := d
  subst hQ
  intro H locs ls hR hS hL
  exact W.vret hx hb hr (fun t ht hW => ⟨rfl, by rw [ht]; exact hR, va_K.moved hW.alike hKK, hS.F ht⟩) hS.2.2 d hlk
theorem ga_aret {r : Option Nat} {rt : FieldType} (C : ga_C X cc own dp) (T : ga_Rt X (some rt) (some (.inr r)) M) (hrt : (∃ n, rt = .object n) ∨ ∃ t, rt = .array t) (d : gd cc pc .areturn 1 pc') : ga_W X M pc lv [.inr r] := by
  obtain ⟨p, l, e, R, s, m, args, below, meth, c, D, E, A, nL, cells, slots, Q, ad, K⟩ := X
  obtain ⟨hx, hb, -, hown, hts, hKK, hlk, -⟩ := C
  obtain ⟨hr, hQ⟩ := T
  obtain ⟨d, rfl⟩ := d
  subst hQ
  intro H locs ls hR hS hL
  exact W.aret (v := va_rf (r.map ad)) hx hb hr hrt (va_rf_or _) (fun t ht hW => ⟨rfl, by rw [ht]; exact hR, va_K.moved hW.alike hKK, hS.F ht⟩) hS.2.2 d hlk
end GA
-- a method out of its body
section GR
variable {X : gaX} {cc : ByteArray} {own : String} {dp : Nat} {M M1 : gaM} {pc pc' : Nat} {lv lv' : List (Option gaV)} {st : List gaV}
theorem ga_iretW {v r : Int} (C : ga_C X cc own dp) (T : ga_Rt X (some .int) (some (.inl r)) M1) (d : gd cc pc .ireturn 1 pc') (hf : some (v, M) = some (r, M1)) : ga_W X M pc lv [.inl v] := by
  cases hf; exact ga_iret C T d
theorem ga_iret0 {v r : Int} (C : ga_C X cc own dp) (T : ga_Rt X (some .int) (some (.inl r)) M) (d : gd cc pc .ireturn 1 pc') (hf : some v = some r) : ga_W X M pc lv [.inl v] := by
  cases hf; exact ga_iret C T d
theorem ga_zretW {v r : Int} (C : ga_C X cc own dp) (T : ga_Rt X (some .boolean) (some (.inl r)) M1) (d : gd cc pc .ireturn 1 pc') (hv : v = 0 ∨ v = 1) (hf : some (v, M) = some (r, M1)) : ga_W X M pc lv [.inl v] := by
  cases hf; exact ga_zret C T hv d
theorem ga_zret0 {v r : Int} (C : ga_C X cc own dp) (T : ga_Rt X (some .boolean) (some (.inl r)) M) (d : gd cc pc .ireturn 1 pc') (hv : v = 0 ∨ v = 1) (hf : some v = some r) : ga_W X M pc lv [.inl v] := by
  cases hf; exact ga_zret C T hv d
theorem ga_vretW (C : ga_C X cc own dp) (T : ga_Rt X none none M1) (d : gd cc pc .return_ 1 pc') (hf : some M = some M1) : ga_W X M pc lv [] := by
  cases hf; exact ga_vret C T d
def ga_mask : List Bool → List (Option gaV) → List (Option gaV)
  | true :: b, v :: l => v :: ga_mask b l
  | false :: b, _ :: l => none :: ga_mask b l
  | _, l => l
theorem ga_mask_len : ∀ (b : List Bool) (l : List (Option gaV)), (ga_mask b l).length = l.length
  | [], l => by cases l <;> rfl
  | true :: b, [] => rfl
  | false :: b, [] => rfl
  | true :: b, v :: l => by show (ga_mask b l).length + 1 = l.length + 1; rw [ga_mask_len b l]
  | false :: b, v :: l => by show (ga_mask b l).length + 1 = l.length + 1; rw [ga_mask_len b l]
theorem ga_mask_get : ∀ (b : List Bool) (l : List (Option gaV)) (i : Nat) (v : gaV), (ga_mask b l)[i]? = some (some v) → l[i]? = some (some v)
  | [], l, i, v, h => by cases l <;> exact h
  | true :: b, [], i, v, h => h
  | false :: b, [], i, v, h => h
  | true :: b, w :: l, 0, v, h => h
  | true :: b, w :: l, i + 1, v, h => by
    have h1 : (ga_mask b l)[i]? = some (some v) := by simpa [ga_mask] using h
    simpa using ga_mask_get b l i v h1
  | false :: b, w :: l, 0, v, h => by simp [ga_mask] at h
  | false :: b, w :: l, i + 1, v, h => by
    have h1 : (ga_mask b l)[i]? = some (some v) := by simpa [ga_mask] using h
    simpa using ga_mask_get b l i v h1
theorem ga_forget (b : List Bool) (h : ga_mask b lv = lv') (k : ga_W X M pc lv' st) : ga_W X M pc lv st := by
  obtain ⟨p, l, e, R, s, m, args, below, meth, c, D, E, A, nL, cells, slots, Q, ad, K⟩ := X
  intro H locs ls hR hS hL
  refine k H locs ls hR hS ⟨hL.1, hL.2.1, by rw [← h, ga_mask_len]; exact hL.2.2.1, fun i v hv => hL.2.2.2 i v (ga_mask_get b lv i v (by rw [h]; exact hv))⟩
theorem ga_il0 {r : List (Option gaV)} {x : Int} (C : ga_C X cc own dp) (d : gd_iload cc pc 0 pc') (k : ga_W X M pc' (some (.inl x) :: r) (.inl x :: st)) : ga_W X M pc (some (.inl x) :: r) st := ga_iload C d rfl k
theorem ga_al0 {r : List (Option gaV)} {x : Nat} (C : ga_C X cc own dp) (d : gd_aload cc pc 0 pc') (k : ga_W X M pc' (some (.inr (some x)) :: r) (.inr (some x) :: st)) : ga_W X M pc (some (.inr (some x)) :: r) st := ga_aload C d rfl k
theorem ga_is0 {a0 : Option gaV} {r : List (Option gaV)} {x : Int} (C : ga_C X cc own dp) (d : gd_istore cc pc 0 pc') (k : ga_W X M pc' (some (.inl x) :: r) st) : ga_W X M pc (a0 :: r) (.inl x :: st) := ga_istore C d rfl (by simp) k
theorem ga_as0 {a0 : Option gaV} {r : List (Option gaV)} {x : Nat} (C : ga_C X cc own dp) (d : gd_astore cc pc 0 pc') (k : ga_W X M pc' (some (.inr (some x)) :: r) st) : ga_W X M pc (a0 :: r) (.inr (some x) :: st) := ga_astore C d rfl (by simp) k
theorem ga_ii0 {r : List (Option gaV)} {x n : Int} (C : ga_C X cc own dp) (d : gd cc pc (.iinc 0 n) 3 pc') (k : ga_W X M pc' (some (.inl (x + n)) :: r) st) : ga_W X M pc (some (.inl x) :: r) st := ga_iinc C d rfl rfl (by simp) k
theorem ga_il1 {a0 : Option gaV} {r : List (Option gaV)} {x : Int} (C : ga_C X cc own dp) (d : gd_iload cc pc 1 pc') (k : ga_W X M pc' (a0 :: some (.inl x) :: r) (.inl x :: st)) : ga_W X M pc (a0 :: some (.inl x) :: r) st := ga_iload C d rfl k
theorem ga_al1 {a0 : Option gaV} {r : List (Option gaV)} {x : Nat} (C : ga_C X cc own dp) (d : gd_aload cc pc 1 pc') (k : ga_W X M pc' (a0 :: some (.inr (some x)) :: r) (.inr (some x) :: st)) : ga_W X M pc (a0 :: some (.inr (some x)) :: r) st := ga_aload C d rfl k
theorem ga_is1 {a0 a1 : Option gaV} {r : List (Option gaV)} {x : Int} (C : ga_C X cc own dp) (d : gd_istore cc pc 1 pc') (k : ga_W X M pc' (a0 :: some (.inl x) :: r) st) : ga_W X M pc (a0 :: a1 :: r) (.inl x :: st) := ga_istore C d rfl (by simp) k
theorem ga_as1 {a0 a1 : Option gaV} {r : List (Option gaV)} {x : Nat} (C : ga_C X cc own dp) (d : gd_astore cc pc 1 pc') (k : ga_W X M pc' (a0 :: some (.inr (some x)) :: r) st) : ga_W X M pc (a0 :: a1 :: r) (.inr (some x) :: st) := ga_astore C d rfl (by simp) k
theorem ga_ii1 {a0 : Option gaV} {r : List (Option gaV)} {x n : Int} (C : ga_C X cc own dp) (d : gd cc pc (.iinc 1 n) 3 pc') (k : ga_W X M pc' (a0 :: some (.inl (x + n)) :: r) st) : ga_W X M pc (a0 :: some (.inl x) :: r) st := ga_iinc C d rfl rfl (by simp) k
theorem ga_il2 {a0 a1 : Option gaV} {r : List (Option gaV)} {x : Int} (C : ga_C X cc own dp) (d : gd_iload cc pc 2 pc') (k : ga_W X M pc' (a0 :: a1 :: some (.inl x) :: r) (.inl x :: st)) : ga_W X M pc (a0 :: a1 :: some (.inl x) :: r) st := ga_iload C d rfl k
theorem ga_al2 {a0 a1 : Option gaV} {r : List (Option gaV)} {x : Nat} (C : ga_C X cc own dp) (d : gd_aload cc pc 2 pc') (k : ga_W X M pc' (a0 :: a1 :: some (.inr (some x)) :: r) (.inr (some x) :: st)) : ga_W X M pc (a0 :: a1 :: some (.inr (some x)) :: r) st := ga_aload C d rfl k
theorem ga_is2 {a0 a1 a2 : Option gaV} {r : List (Option gaV)} {x : Int} (C : ga_C X cc own dp) (d : gd_istore cc pc 2 pc') (k : ga_W X M pc' (a0 :: a1 :: some (.inl x) :: r) st) : ga_W X M pc (a0 :: a1 :: a2 :: r) (.inl x :: st) := ga_istore C d rfl (by simp) k
theorem ga_as2 {a0 a1 a2 : Option gaV} {r : List (Option gaV)} {x : Nat} (C : ga_C X cc own dp) (d : gd_astore cc pc 2 pc') (k : ga_W X M pc' (a0 :: a1 :: some (.inr (some x)) :: r) st) : ga_W X M pc (a0 :: a1 :: a2 :: r) (.inr (some x) :: st) := ga_astore C d rfl (by simp) k
theorem ga_ii2 {a0 a1 : Option gaV} {r : List (Option gaV)} {x n : Int} (C : ga_C X cc own dp) (d : gd cc pc (.iinc 2 n) 3 pc') (k : ga_W X M pc' (a0 :: a1 :: some (.inl (x + n)) :: r) st) : ga_W X M pc (a0 :: a1 :: some (.inl x) :: r) st := ga_iinc C d rfl rfl (by simp) k
theorem ga_il3 {a0 a1 a2 : Option gaV} {r : List (Option gaV)} {x : Int} (C : ga_C X cc own dp) (d : gd_iload cc pc 3 pc') (k : ga_W X M pc' (a0 :: a1 :: a2 :: some (.inl x) :: r) (.inl x :: st)) : ga_W X M pc (a0 :: a1 :: a2 :: some (.inl x) :: r) st := ga_iload C d rfl k
theorem ga_al3 {a0 a1 a2 : Option gaV} {r : List (Option gaV)} {x : Nat} (C : ga_C X cc own dp) (d : gd_aload cc pc 3 pc') (k : ga_W X M pc' (a0 :: a1 :: a2 :: some (.inr (some x)) :: r) (.inr (some x) :: st)) : ga_W X M pc (a0 :: a1 :: a2 :: some (.inr (some x)) :: r) st := ga_aload C d rfl k
theorem ga_is3 {a0 a1 a2 a3 : Option gaV} {r : List (Option gaV)} {x : Int} (C : ga_C X cc own dp) (d : gd_istore cc pc 3 pc') (k : ga_W X M pc' (a0 :: a1 :: a2 :: some (.inl x) :: r) st) : ga_W X M pc (a0 :: a1 :: a2 :: a3 :: r) (.inl x :: st) := ga_istore C d rfl (by simp) k
theorem ga_as3 {a0 a1 a2 a3 : Option gaV} {r : List (Option gaV)} {x : Nat} (C : ga_C X cc own dp) (d : gd_astore cc pc 3 pc') (k : ga_W X M pc' (a0 :: a1 :: a2 :: some (.inr (some x)) :: r) st) : ga_W X M pc (a0 :: a1 :: a2 :: a3 :: r) (.inr (some x) :: st) := ga_astore C d rfl (by simp) k
theorem ga_ii3 {a0 a1 a2 : Option gaV} {r : List (Option gaV)} {x n : Int} (C : ga_C X cc own dp) (d : gd cc pc (.iinc 3 n) 3 pc') (k : ga_W X M pc' (a0 :: a1 :: a2 :: some (.inl (x + n)) :: r) st) : ga_W X M pc (a0 :: a1 :: a2 :: some (.inl x) :: r) st := ga_iinc C d rfl rfl (by simp) k
theorem ga_il4 {a0 a1 a2 a3 : Option gaV} {r : List (Option gaV)} {x : Int} (C : ga_C X cc own dp) (d : gd_iload cc pc 4 pc') (k : ga_W X M pc' (a0 :: a1 :: a2 :: a3 :: some (.inl x) :: r) (.inl x :: st)) : ga_W X M pc (a0 :: a1 :: a2 :: a3 :: some (.inl x) :: r) st := ga_iload C d rfl k
theorem ga_al4 {a0 a1 a2 a3 : Option gaV} {r : List (Option gaV)} {x : Nat} (C : ga_C X cc own dp) (d : gd_aload cc pc 4 pc') (k : ga_W X M pc' (a0 :: a1 :: a2 :: a3 :: some (.inr (some x)) :: r) (.inr (some x) :: st)) : ga_W X M pc (a0 :: a1 :: a2 :: a3 :: some (.inr (some x)) :: r) st := ga_aload C d rfl k
theorem ga_is4 {a0 a1 a2 a3 a4 : Option gaV} {r : List (Option gaV)} {x : Int} (C : ga_C X cc own dp) (d : gd_istore cc pc 4 pc') (k : ga_W X M pc' (a0 :: a1 :: a2 :: a3 :: some (.inl x) :: r) st) : ga_W X M pc (a0 :: a1 :: a2 :: a3 :: a4 :: r) (.inl x :: st) := ga_istore C d rfl (by simp) k
theorem ga_as4 {a0 a1 a2 a3 a4 : Option gaV} {r : List (Option gaV)} {x : Nat} (C : ga_C X cc own dp) (d : gd_astore cc pc 4 pc') (k : ga_W X M pc' (a0 :: a1 :: a2 :: a3 :: some (.inr (some x)) :: r) st) : ga_W X M pc (a0 :: a1 :: a2 :: a3 :: a4 :: r) (.inr (some x) :: st) := ga_astore C d rfl (by simp) k
theorem ga_ii4 {a0 a1 a2 a3 : Option gaV} {r : List (Option gaV)} {x n : Int} (C : ga_C X cc own dp) (d : gd cc pc (.iinc 4 n) 3 pc') (k : ga_W X M pc' (a0 :: a1 :: a2 :: a3 :: some (.inl (x + n)) :: r) st) : ga_W X M pc (a0 :: a1 :: a2 :: a3 :: some (.inl x) :: r) st := ga_iinc C d rfl rfl (by simp) k
theorem ga_il5 {a0 a1 a2 a3 a4 : Option gaV} {r : List (Option gaV)} {x : Int} (C : ga_C X cc own dp) (d : gd_iload cc pc 5 pc') (k : ga_W X M pc' (a0 :: a1 :: a2 :: a3 :: a4 :: some (.inl x) :: r) (.inl x :: st)) : ga_W X M pc (a0 :: a1 :: a2 :: a3 :: a4 :: some (.inl x) :: r) st := ga_iload C d rfl k
theorem ga_al5 {a0 a1 a2 a3 a4 : Option gaV} {r : List (Option gaV)} {x : Nat} (C : ga_C X cc own dp) (d : gd_aload cc pc 5 pc') (k : ga_W X M pc' (a0 :: a1 :: a2 :: a3 :: a4 :: some (.inr (some x)) :: r) (.inr (some x) :: st)) : ga_W X M pc (a0 :: a1 :: a2 :: a3 :: a4 :: some (.inr (some x)) :: r) st := ga_aload C d rfl k
theorem ga_is5 {a0 a1 a2 a3 a4 a5 : Option gaV} {r : List (Option gaV)} {x : Int} (C : ga_C X cc own dp) (d : gd_istore cc pc 5 pc') (k : ga_W X M pc' (a0 :: a1 :: a2 :: a3 :: a4 :: some (.inl x) :: r) st) : ga_W X M pc (a0 :: a1 :: a2 :: a3 :: a4 :: a5 :: r) (.inl x :: st) := ga_istore C d rfl (by simp) k
theorem ga_as5 {a0 a1 a2 a3 a4 a5 : Option gaV} {r : List (Option gaV)} {x : Nat} (C : ga_C X cc own dp) (d : gd_astore cc pc 5 pc') (k : ga_W X M pc' (a0 :: a1 :: a2 :: a3 :: a4 :: some (.inr (some x)) :: r) st) : ga_W X M pc (a0 :: a1 :: a2 :: a3 :: a4 :: a5 :: r) (.inr (some x) :: st) := ga_astore C d rfl (by simp) k
theorem ga_ii5 {a0 a1 a2 a3 a4 : Option gaV} {r : List (Option gaV)} {x n : Int} (C : ga_C X cc own dp) (d : gd cc pc (.iinc 5 n) 3 pc') (k : ga_W X M pc' (a0 :: a1 :: a2 :: a3 :: a4 :: some (.inl (x + n)) :: r) st) : ga_W X M pc (a0 :: a1 :: a2 :: a3 :: a4 :: some (.inl x) :: r) st := ga_iinc C d rfl rfl (by simp) k
theorem ga_il6 {a0 a1 a2 a3 a4 a5 : Option gaV} {r : List (Option gaV)} {x : Int} (C : ga_C X cc own dp) (d : gd_iload cc pc 6 pc') (k : ga_W X M pc' (a0 :: a1 :: a2 :: a3 :: a4 :: a5 :: some (.inl x) :: r) (.inl x :: st)) : ga_W X M pc (a0 :: a1 :: a2 :: a3 :: a4 :: a5 :: some (.inl x) :: r) st := ga_iload C d rfl k
theorem ga_al6 {a0 a1 a2 a3 a4 a5 : Option gaV} {r : List (Option gaV)} {x : Nat} (C : ga_C X cc own dp) (d : gd_aload cc pc 6 pc') (k : ga_W X M pc' (a0 :: a1 :: a2 :: a3 :: a4 :: a5 :: some (.inr (some x)) :: r) (.inr (some x) :: st)) : ga_W X M pc (a0 :: a1 :: a2 :: a3 :: a4 :: a5 :: some (.inr (some x)) :: r) st := ga_aload C d rfl k
theorem ga_is6 {a0 a1 a2 a3 a4 a5 a6 : Option gaV} {r : List (Option gaV)} {x : Int} (C : ga_C X cc own dp) (d : gd_istore cc pc 6 pc') (k : ga_W X M pc' (a0 :: a1 :: a2 :: a3 :: a4 :: a5 :: some (.inl x) :: r) st) : ga_W X M pc (a0 :: a1 :: a2 :: a3 :: a4 :: a5 :: a6 :: r) (.inl x :: st) := ga_istore C d rfl (by simp) k
theorem ga_as6 {a0 a1 a2 a3 a4 a5 a6 : Option gaV} {r : List (Option gaV)} {x : Nat} (C : ga_C X cc own dp) (d : gd_astore cc pc 6 pc') (k : ga_W X M pc' (a0 :: a1 :: a2 :: a3 :: a4 :: a5 :: some (.inr (some x)) :: r) st) : ga_W X M pc (a0 :: a1 :: a2 :: a3 :: a4 :: a5 :: a6 :: r) (.inr (some x) :: st) := ga_astore C d rfl (by simp) k
theorem ga_ii6 {a0 a1 a2 a3 a4 a5 : Option gaV} {r : List (Option gaV)} {x n : Int} (C : ga_C X cc own dp) (d : gd cc pc (.iinc 6 n) 3 pc') (k : ga_W X M pc' (a0 :: a1 :: a2 :: a3 :: a4 :: a5 :: some (.inl (x + n)) :: r) st) : ga_W X M pc (a0 :: a1 :: a2 :: a3 :: a4 :: a5 :: some (.inl x) :: r) st := ga_iinc C d rfl rfl (by simp) k
theorem ga_il7 {a0 a1 a2 a3 a4 a5 a6 : Option gaV} {r : List (Option gaV)} {x : Int} (C : ga_C X cc own dp) (d : gd_iload cc pc 7 pc') (k : ga_W X M pc' (a0 :: a1 :: a2 :: a3 :: a4 :: a5 :: a6 :: some (.inl x) :: r) (.inl x :: st)) : ga_W X M pc (a0 :: a1 :: a2 :: a3 :: a4 :: a5 :: a6 :: some (.inl x) :: r) st := ga_iload C d rfl k
theorem ga_al7 {a0 a1 a2 a3 a4 a5 a6 : Option gaV} {r : List (Option gaV)} {x : Nat} (C : ga_C X cc own dp) (d : gd_aload cc pc 7 pc') (k : ga_W X M pc' (a0 :: a1 :: a2 :: a3 :: a4 :: a5 :: a6 :: some (.inr (some x)) :: r) (.inr (some x) :: st)) : ga_W X M pc (a0 :: a1 :: a2 :: a3 :: a4 :: a5 :: a6 :: some (.inr (some x)) :: r) st := ga_aload C d rfl k
theorem ga_is7 {a0 a1 a2 a3 a4 a5 a6 a7 : Option gaV} {r : List (Option gaV)} {x : Int} (C : ga_C X cc own dp) (d : gd_istore cc pc 7 pc') (k : ga_W X M pc' (a0 :: a1 :: a2 :: a3 :: a4 :: a5 :: a6 :: some (.inl x) :: r) st) : ga_W X M pc (a0 :: a1 :: a2 :: a3 :: a4 :: a5 :: a6 :: a7 :: r) (.inl x :: st) := ga_istore C d rfl (by simp) k
theorem ga_as7 {a0 a1 a2 a3 a4 a5 a6 a7 : Option gaV} {r : List (Option gaV)} {x : Nat} (C : ga_C X cc own dp) (d : gd_astore cc pc 7 pc') (k : ga_W X M pc' (a0 :: a1 :: a2 :: a3 :: a4 :: a5 :: a6 :: some (.inr (some x)) :: r) st) : ga_W X M pc (a0 :: a1 :: a2 :: a3 :: a4 :: a5 :: a6 :: a7 :: r) (.inr (some x) :: st) := ga_astore C d rfl (by simp) k
theorem ga_ii7 {a0 a1 a2 a3 a4 a5 a6 : Option gaV} {r : List (Option gaV)} {x n : Int} (C : ga_C X cc own dp) (d : gd cc pc (.iinc 7 n) 3 pc') (k : ga_W X M pc' (a0 :: a1 :: a2 :: a3 :: a4 :: a5 :: a6 :: some (.inl (x + n)) :: r) st) : ga_W X M pc (a0 :: a1 :: a2 :: a3 :: a4 :: a5 :: a6 :: some (.inl x) :: r) st := ga_iinc C d rfl rfl (by simp) k
theorem ga_il8 {a0 a1 a2 a3 a4 a5 a6 a7 : Option gaV} {r : List (Option gaV)} {x : Int} (C : ga_C X cc own dp) (d : gd_iload cc pc 8 pc') (k : ga_W X M pc' (a0 :: a1 :: a2 :: a3 :: a4 :: a5 :: a6 :: a7 :: some (.inl x) :: r) (.inl x :: st)) : ga_W X M pc (a0 :: a1 :: a2 :: a3 :: a4 :: a5 :: a6 :: a7 :: some (.inl x) :: r) st := ga_iload C d rfl k
theorem ga_al8 {a0 a1 a2 a3 a4 a5 a6 a7 : Option gaV} {r : List (Option gaV)} {x : Nat} (C : ga_C X cc own dp) (d : gd_aload cc pc 8 pc') (k : ga_W X M pc' (a0 :: a1 :: a2 :: a3 :: a4 :: a5 :: a6 :: a7 :: some (.inr (some x)) :: r) (.inr (some x) :: st)) : ga_W X M pc (a0 :: a1 :: a2 :: a3 :: a4 :: a5 :: a6 :: a7 :: some (.inr (some x)) :: r) st := ga_aload C d rfl k
theorem ga_is8 {a0 a1 a2 a3 a4 a5 a6 a7 a8 : Option gaV} {r : List (Option gaV)} {x : Int} (C : ga_C X cc own dp) (d : gd_istore cc pc 8 pc') (k : ga_W X M pc' (a0 :: a1 :: a2 :: a3 :: a4 :: a5 :: a6 :: a7 :: some (.inl x) :: r) st) : ga_W X M pc (a0 :: a1 :: a2 :: a3 :: a4 :: a5 :: a6 :: a7 :: a8 :: r) (.inl x :: st) := ga_istore C d rfl (by simp) k
theorem ga_as8 {a0 a1 a2 a3 a4 a5 a6 a7 a8 : Option gaV} {r : List (Option gaV)} {x : Nat} (C : ga_C X cc own dp) (d : gd_astore cc pc 8 pc') (k : ga_W X M pc' (a0 :: a1 :: a2 :: a3 :: a4 :: a5 :: a6 :: a7 :: some (.inr (some x)) :: r) st) : ga_W X M pc (a0 :: a1 :: a2 :: a3 :: a4 :: a5 :: a6 :: a7 :: a8 :: r) (.inr (some x) :: st) := ga_astore C d rfl (by simp) k
theorem ga_ii8 {a0 a1 a2 a3 a4 a5 a6 a7 : Option gaV} {r : List (Option gaV)} {x n : Int} (C : ga_C X cc own dp) (d : gd cc pc (.iinc 8 n) 3 pc') (k : ga_W X M pc' (a0 :: a1 :: a2 :: a3 :: a4 :: a5 :: a6 :: a7 :: some (.inl (x + n)) :: r) st) : ga_W X M pc (a0 :: a1 :: a2 :: a3 :: a4 :: a5 :: a6 :: a7 :: some (.inl x) :: r) st := ga_iinc C d rfl rfl (by simp) k
theorem ga_il9 {a0 a1 a2 a3 a4 a5 a6 a7 a8 : Option gaV} {r : List (Option gaV)} {x : Int} (C : ga_C X cc own dp) (d : gd_iload cc pc 9 pc') (k : ga_W X M pc' (a0 :: a1 :: a2 :: a3 :: a4 :: a5 :: a6 :: a7 :: a8 :: some (.inl x) :: r) (.inl x :: st)) : ga_W X M pc (a0 :: a1 :: a2 :: a3 :: a4 :: a5 :: a6 :: a7 :: a8 :: some (.inl x) :: r) st := ga_iload C d rfl k
theorem ga_al9 {a0 a1 a2 a3 a4 a5 a6 a7 a8 : Option gaV} {r : List (Option gaV)} {x : Nat} (C : ga_C X cc own dp) (d : gd_aload cc pc 9 pc') (k : ga_W X M pc' (a0 :: a1 :: a2 :: a3 :: a4 :: a5 :: a6 :: a7 :: a8 :: some (.inr (some x)) :: r) (.inr (some x) :: st)) : ga_W X M pc (a0 :: a1 :: a2 :: a3 :: a4 :: a5 :: a6 :: a7 :: a8 :: some (.inr (some x)) :: r) st := ga_aload C d rfl k
theorem ga_is9 {a0 a1 a2 a3 a4 a5 a6 a7 a8 a9 : Option gaV} {r : List (Option gaV)} {x : Int} (C : ga_C X cc own dp) (d : gd_istore cc pc 9 pc') (k : ga_W X M pc' (a0 :: a1 :: a2 :: a3 :: a4 :: a5 :: a6 :: a7 :: a8 :: some (.inl x) :: r) st) : ga_W X M pc (a0 :: a1 :: a2 :: a3 :: a4 :: a5 :: a6 :: a7 :: a8 :: a9 :: r) (.inl x :: st) := ga_istore C d rfl (by simp) k
theorem ga_as9 {a0 a1 a2 a3 a4 a5 a6 a7 a8 a9 : Option gaV} {r : List (Option gaV)} {x : Nat} (C : ga_C X cc own dp) (d : gd_astore cc pc 9 pc') (k : ga_W X M pc' (a0 :: a1 :: a2 :: a3 :: a4 :: a5 :: a6 :: a7 :: a8 :: some (.inr (some x)) :: r) st) : ga_W X M pc (a0 :: a1 :: a2 :: a3 :: a4 :: a5 :: a6 :: a7 :: a8 :: a9 :: r) (.inr (some x) :: st) := ga_astore C d rfl (by simp) k
theorem ga_ii9 {a0 a1 a2 a3 a4 a5 a6 a7 a8 : Option gaV} {r : List (Option gaV)} {x n : Int} (C : ga_C X cc own dp) (d : gd cc pc (.iinc 9 n) 3 pc') (k : ga_W X M pc' (a0 :: a1 :: a2 :: a3 :: a4 :: a5 :: a6 :: a7 :: a8 :: some (.inl (x + n)) :: r) st) : ga_W X M pc (a0 :: a1 :: a2 :: a3 :: a4 :: a5 :: a6 :: a7 :: a8 :: some (.inl x) :: r) st := ga_iinc C d rfl rfl (by simp) k
theorem ga_il10 {a0 a1 a2 a3 a4 a5 a6 a7 a8 a9 : Option gaV} {r : List (Option gaV)} {x : Int} (C : ga_C X cc own dp) (d : gd_iload cc pc 10 pc') (k : ga_W X M pc' (a0 :: a1 :: a2 :: a3 :: a4 :: a5 :: a6 :: a7 :: a8 :: a9 :: some (.inl x) :: r) (.inl x :: st)) : ga_W X M pc (a0 :: a1 :: a2 :: a3 :: a4 :: a5 :: a6 :: a7 :: a8 :: a9 :: some (.inl x) :: r) st := ga_iload C d rfl k
theorem ga_al10 {a0 a1 a2 a3 a4 a5 a6 a7 a8 a9 : Option gaV} {r : List (Option gaV)} {x : Nat} (C : ga_C X cc own dp) (d : gd_aload cc pc 10 pc') (k : ga_W X M pc' (a0 :: a1 :: a2 :: a3 :: a4 :: a5 :: a6 :: a7 :: a8 :: a9 :: some (.inr (some x)) :: r) (.inr (some x) :: st)) : ga_W X M pc (a0 :: a1 :: a2 :: a3 :: a4 :: a5 :: a6 :: a7 :: a8 :: a9 :: some (.inr (some x)) :: r) st := ga_aload C d rfl k
theorem ga_is10 {a0 a1 a2 a3 a4 a5 a6 a7 a8 a9 a10 : Option gaV} {r : List (Option gaV)} {x : Int} (C : ga_C X cc own dp) (d : gd_istore cc pc 10 pc') (k : ga_W X M pc' (a0 :: a1 :: a2 :: a3 :: a4 :: a5 :: a6 :: a7 :: a8 :: a9 :: some (.inl x) :: r) st) : ga_W X M pc (a0 :: a1 :: a2 :: a3 :: a4 :: a5 :: a6 :: a7 :: a8 :: a9 :: a10 :: r) (.inl x :: st) := ga_istore C d rfl (by simp) k
theorem ga_as10 {a0 a1 a2 a3 a4 a5 a6 a7 a8 a9 a10 : Option gaV} {r : List (Option gaV)} {x : Nat} (C : ga_C X cc own dp) (d : gd_astore cc pc 10 pc') (k : ga_W X M pc' (a0 :: a1 :: a2 :: a3 :: a4 :: a5 :: a6 :: a7 :: a8 :: a9 :: some (.inr (some x)) :: r) st) : ga_W X M pc (a0 :: a1 :: a2 :: a3 :: a4 :: a5 :: a6 :: a7 :: a8 :: a9 :: a10 :: r) (.inr (some x) :: st) := ga_astore C d rfl (by simp) k
theorem ga_ii10 {a0 a1 a2 a3 a4 a5 a6 a7 a8 a9 : Option gaV} {r : List (Option gaV)} {x n : Int} (C : ga_C X cc own dp) (d : gd cc pc (.iinc 10 n) 3 pc') (k : ga_W X M pc' (a0 :: a1 :: a2 :: a3 :: a4 :: a5 :: a6 :: a7 :: a8 :: a9 :: some (.inl (x + n)) :: r) st) : ga_W X M pc (a0 :: a1 :: a2 :: a3 :: a4 :: a5 :: a6 :: a7 :: a8 :: a9 :: some (.inl x) :: r) st := ga_iinc C d rfl rfl (by simp) k
theorem ga_il11 {a0 a1 a2 a3 a4 a5 a6 a7 a8 a9 a10 : Option gaV} {r : List (Option gaV)} {x : Int} (C : ga_C X cc own dp) (d : gd_iload cc pc 11 pc') (k : ga_W X M pc' (a0 :: a1 :: a2 :: a3 :: a4 :: a5 :: a6 :: a7 :: a8 :: a9 :: a10 :: some (.inl x) :: r) (.inl x :: st)) : ga_W X M pc (a0 :: a1 :: a2 :: a3 :: a4 :: a5 :: a6 :: a7 :: a8 :: a9 :: a10 :: some (.inl x) :: r) st := ga_iload C d rfl k
theorem ga_al11 {a0 a1 a2 a3 a4 a5 a6 a7 a8 a9 a10 : Option gaV} {r : List (Option gaV)} {x : Nat} (C : ga_C X cc own dp) (d : gd_aload cc pc 11 pc') (k : ga_W X M pc' (a0 :: a1 :: a2 :: a3 :: a4 :: a5 :: a6 :: a7 :: a8 :: a9 :: a10 :: some (.inr (some x)) :: r) (.inr (some x) :: st)) : ga_W X M pc (a0 :: a1 :: a2 :: a3 :: a4 :: a5 :: a6 :: a7 :: a8 :: a9 :: a10 :: some (.inr (some x)) :: r) st := ga_aload C d rfl k
theorem ga_is11 {a0 a1 a2 a3 a4 a5 a6 a7 a8 a9 a10 a11 : Option gaV} {r : List (Option gaV)} {x : Int} (C : ga_C X cc own dp) (d : gd_istore cc pc 11 pc') (k : ga_W X M pc' (a0 :: a1 :: a2 :: a3 :: a4 :: a5 :: a6 :: a7 :: a8 :: a9 :: a10 :: some (.inl x) :: r) st) : ga_W X M pc (a0 :: a1 :: a2 :: a3 :: a4 :: a5 :: a6 :: a7 :: a8 :: a9 :: a10 :: a11 :: r) (.inl x :: st) := ga_istore C d rfl (by simp) k
theorem ga_as11 {a0 a1 a2 a3 a4 a5 a6 a7 a8 a9 a10 a11 : Option gaV} {r : List (Option gaV)} {x : Nat} (C : ga_C X cc own dp) (d : gd_astore cc pc 11 pc') (k : ga_W X M pc' (a0 :: a1 :: a2 :: a3 :: a4 :: a5 :: a6 :: a7 :: a8 :: a9 :: a10 :: some (.inr (some x)) :: r) st) : ga_W X M pc (a0 :: a1 :: a2 :: a3 :: a4 :: a5 :: a6 :: a7 :: a8 :: a9 :: a10 :: a11 :: r) (.inr (some x) :: st) := ga_astore C d rfl (by simp) k
theorem ga_ii11 {a0 a1 a2 a3 a4 a5 a6 a7 a8 a9 a10 : Option gaV} {r : List (Option gaV)} {x n : Int} (C : ga_C X cc own dp) (d : gd cc pc (.iinc 11 n) 3 pc') (k : ga_W X M pc' (a0 :: a1 :: a2 :: a3 :: a4 :: a5 :: a6 :: a7 :: a8 :: a9 :: a10 :: some (.inl (x + n)) :: r) st) : ga_W X M pc (a0 :: a1 :: a2 :: a3 :: a4 :: a5 :: a6 :: a7 :: a8 :: a9 :: a10 :: some (.inl x) :: r) st := ga_iinc C d rfl rfl (by simp) k
theorem ga_il12 {a0 a1 a2 a3 a4 a5 a6 a7 a8 a9 a10 a11 : Option gaV} {r : List (Option gaV)} {x : Int} (C : ga_C X cc own dp) (d : gd_iload cc pc 12 pc') (k : ga_W X M pc' (a0 :: a1 :: a2 :: a3 :: a4 :: a5 :: a6 :: a7 :: a8 :: a9 :: a10 :: a11 :: some (.inl x) :: r) (.inl x :: st)) : ga_W X M pc (a0 :: a1 :: a2 :: a3 :: a4 :: a5 :: a6 :: a7 :: a8 :: a9 :: a10 :: a11 :: some (.inl x) :: r) st := ga_iload C d rfl k
theorem ga_al12 {a0 a1 a2 a3 a4 a5 a6 a7 a8 a9 a10 a11 : Option gaV} {r : List (Option gaV)} {x : Nat} (C : ga_C X cc own dp) (d : gd_aload cc pc 12 pc') (k : ga_W X M pc' (a0 :: a1 :: a2 :: a3 :: a4 :: a5 :: a6 :: a7 :: a8 :: a9 :: a10 :: a11 :: some (.inr (some x)) :: r) (.inr (some x) :: st)) : ga_W X M pc (a0 :: a1 :: a2 :: a3 :: a4 :: a5 :: a6 :: a7 :: a8 :: a9 :: a10 :: a11 :: some (.inr (some x)) :: r) st := ga_aload C d rfl k
theorem ga_is12 {a0 a1 a2 a3 a4 a5 a6 a7 a8 a9 a10 a11 a12 : Option gaV} {r : List (Option gaV)} {x : Int} (C : ga_C X cc own dp) (d : gd_istore cc pc 12 pc') (k : ga_W X M pc' (a0 :: a1 :: a2 :: a3 :: a4 :: a5 :: a6 :: a7 :: a8 :: a9 :: a10 :: a11 :: some (.inl x) :: r) st) : ga_W X M pc (a0 :: a1 :: a2 :: a3 :: a4 :: a5 :: a6 :: a7 :: a8 :: a9 :: a10 :: a11 :: a12 :: r) (.inl x :: st) := ga_istore C d rfl (by simp) k
theorem ga_as12 {a0 a1 a2 a3 a4 a5 a6 a7 a8 a9 a10 a11 a12 : Option gaV} {r : List (Option gaV)} {x : Nat} (C : ga_C X cc own dp) (d : gd_astore cc pc 12 pc') (k : ga_W X M pc' (a0 :: a1 :: a2 :: a3 :: a4 :: a5 :: a6 :: a7 :: a8 :: a9 :: a10 :: a11 :: some (.inr (some x)) :: r) st) : ga_W X M pc (a0 :: a1 :: a2 :: a3 :: a4 :: a5 :: a6 :: a7 :: a8 :: a9 :: a10 :: a11 :: a12 :: r) (.inr (some x) :: st) := ga_astore C d rfl (by simp) k
theorem ga_ii12 {a0 a1 a2 a3 a4 a5 a6 a7 a8 a9 a10 a11 : Option gaV} {r : List (Option gaV)} {x n : Int} (C : ga_C X cc own dp) (d : gd cc pc (.iinc 12 n) 3 pc') (k : ga_W X M pc' (a0 :: a1 :: a2 :: a3 :: a4 :: a5 :: a6 :: a7 :: a8 :: a9 :: a10 :: a11 :: some (.inl (x + n)) :: r) st) : ga_W X M pc (a0 :: a1 :: a2 :: a3 :: a4 :: a5 :: a6 :: a7 :: a8 :: a9 :: a10 :: a11 :: some (.inl x) :: r) st := ga_iinc C d rfl rfl (by simp) k
theorem ga_il13 {a0 a1 a2 a3 a4 a5 a6 a7 a8 a9 a10 a11 a12 : Option gaV} {r : List (Option gaV)} {x : Int} (C : ga_C X cc own dp) (d : gd_iload cc pc 13 pc') (k : ga_W X M pc' (a0 :: a1 :: a2 :: a3 :: a4 :: a5 :: a6 :: a7 :: a8 :: a9 :: a10 :: a11 :: a12 :: some (.inl x) :: r) (.inl x :: st)) : ga_W X M pc (a0 :: a1 :: a2 :: a3 :: a4 :: a5 :: a6 :: a7 :: a8 :: a9 :: a10 :: a11 :: a12 :: some (.inl x) :: r) st := ga_iload C d rfl k
theorem ga_al13 {a0 a1 a2 a3 a4 a5 a6 a7 a8 a9 a10 a11 a12 : Option gaV} {r : List (Option gaV)} {x : Nat} (C : ga_C X cc own dp) (d : gd_aload cc pc 13 pc') (k : ga_W X M pc' (a0 :: a1 :: a2 :: a3 :: a4 :: a5 :: a6 :: a7 :: a8 :: a9 :: a10 :: a11 :: a12 :: some (.inr (some x)) :: r) (.inr (some x) :: st)) : ga_W X M pc (a0 :: a1 :: a2 :: a3 :: a4 :: a5 :: a6 :: a7 :: a8 :: a9 :: a10 :: a11 :: a12 :: some (.inr (some x)) :: r) st := ga_aload C d rfl k
theorem ga_is13 {a0 a1 a2 a3 a4 a5 a6 a7 a8 a9 a10 a11 a12 a13 : Option gaV} {r : List (Option gaV)} {x : Int} (C : ga_C X cc own dp) (d : gd_istore cc pc 13 pc') (k : ga_W X M pc' (a0 :: a1 :: a2 :: a3 :: a4 :: a5 :: a6 :: a7 :: a8 :: a9 :: a10 :: a11 :: a12 :: some (.inl x) :: r) st) : ga_W X M pc (a0 :: a1 :: a2 :: a3 :: a4 :: a5 :: a6 :: a7 :: a8 :: a9 :: a10 :: a11 :: a12 :: a13 :: r) (.inl x :: st) := ga_istore C d rfl (by simp) k
theorem ga_as13 {a0 a1 a2 a3 a4 a5 a6 a7 a8 a9 a10 a11 a12 a13 : Option gaV} {r : List (Option gaV)} {x : Nat} (C : ga_C X cc own dp) (d : gd_astore cc pc 13 pc') (k : ga_W X M pc' (a0 :: a1 :: a2 :: a3 :: a4 :: a5 :: a6 :: a7 :: a8 :: a9 :: a10 :: a11 :: a12 :: some (.inr (some x)) :: r) st) : ga_W X M pc (a0 :: a1 :: a2 :: a3 :: a4 :: a5 :: a6 :: a7 :: a8 :: a9 :: a10 :: a11 :: a12 :: a13 :: r) (.inr (some x) :: st) := ga_astore C d rfl (by simp) k
theorem ga_ii13 {a0 a1 a2 a3 a4 a5 a6 a7 a8 a9 a10 a11 a12 : Option gaV} {r : List (Option gaV)} {x n : Int} (C : ga_C X cc own dp) (d : gd cc pc (.iinc 13 n) 3 pc') (k : ga_W X M pc' (a0 :: a1 :: a2 :: a3 :: a4 :: a5 :: a6 :: a7 :: a8 :: a9 :: a10 :: a11 :: a12 :: some (.inl (x + n)) :: r) st) : ga_W X M pc (a0 :: a1 :: a2 :: a3 :: a4 :: a5 :: a6 :: a7 :: a8 :: a9 :: a10 :: a11 :: a12 :: some (.inl x) :: r) st := ga_iinc C d rfl rfl (by simp) k
end GR
theorem ga_met {y : MethodName} {cc : ByteArray} {maxL : Nat} {ret : Option FieldType} {dp : Nat} {K : gaK} {M M1 : gaM} {as : List gaV} {r : Option gaV} {own : String} (hy : plainName y.cls = true) (ho : y.cls = own) (hn : as.length ≤ maxL) (body : ∀ X : gaX, ga_C X cc own dp → ga_K X = K → ga_Rt X ret r M1 → ga_W X M 0 (as.map some ++ List.replicate (maxL - as.length) none) []) : ga_Met y cc maxL ret dp K M as r M1 := by
  subst ho
  intro l D E ad
  refine Met.ofW (cc := cc) (maxL := maxL) (ret := ret) hy rfl ?_
  intro p e s m args below meth c s₁ B hml hv
  obtain ⟨rfl, hR, hKK⟩ := hv
  have hts := atoms_spec (ws := .code y cc maxL ret :: gaTb) B.pre
  have hown : s.vm.findClass y.cls = some m.cls := findClass_of_methodNamed B.named
  have hl := lv_entry (as.map (ga_cv ad)) (n := maxL) (by rw [ga_len]; exact hn)
  rw [lg_entry_eq]
  exact body (p, l, e, _, s, m, _, below, meth, c, D, E, ga_D ad K, maxL, 0, 0, _, ad, K) ⟨B.exec, B.bytes, hml, hown, fun w h => hts w (List.mem_cons_of_mem _ h), hKK, B.notSynchronized, fun id sk h1 h2 => ⟨id, sk, h1, h2, rfl⟩, Nat.le_refl dp, Nat.le_refl (64 * dp), Nat.le_refl 0, Nat.le_refl 0⟩ rfl ⟨B.returns, rfl⟩ s.heap [] _ hR va_S.rf (ga_L.of hn hl)
-- calls
def ga_wm (y : MethodName) (cc : ByteArray) (maxL : Nat) (ret : Option FieldType) (n : Nat) : Prop := Cond.code y cc maxL ret ∈ gaTb ∧ Cond.initialized y.cls ∈ gaTb ∧ (y.cls ≠ "java/lang/invoke/MethodHandle" ∧ y.cls ≠ "java/lang/invoke/VarHandle") ∧ (parseMethodDescriptor y.desc).map (fun d => d.parameters.length) = some n ∧ maxL ≤ 45
def ga_wv (y : MethodName) (ci : Nat) : Prop := (∃ q, gaT[ci]? = some q ∧ q.1 = y.cls) ∧ Cond.instanceMethod y ∈ gaTb ∧ Cond.selects y.cls y y ∈ gaTb
section GB
variable {X : gaX} {cc : ByteArray} {own : String} {dp : Nat} {M M1 : gaM} {pc pc' : Nat} {lv : List (Option gaV)} {st rest : List gaV}
theorem ga_after {p : Program} {l : Launch} {e : Env} {R : Room} {s : State} {m : MethodId} {args : Array Value} {below : List Frame} {meth : Method} {c : Code} {D : va_G} {E : Nat → ClassId} {A : Nat → Prop} {cells slots : Nat} {Q : State → Prop} {ad : Nat → Nat} {K : gaK} {H : Heap} {locs : List Loc} {ls : Array Slot} {r : Option gaV} {vs rs : List Value} {a : Array Value}
    (hr : va_Run p l e R s m args below meth c H locs cells slots 0 0 (F0 m pc ls vs) rs (ga_Qc D E (ga_D ad K) ad K r M1 a) (ga_D ad K)) (hS : va_S A s.heap H locs) (hA : ∀ (id : Nat) (sk : gaS), K id = some sk → ga_wr sk → A (ad id))
    (kk : ∀ (H1 : Heap) (locs1 : List Loc), ga_R D E ad K M1 H1 → va_S A s.heap H1 locs1 → W p l e R s m args below meth c H1 locs1 cells slots Q (F0 m (pc + 3) ls ((r.map (ga_cv ad)).toList ++ rs))) : W p l e R s m args below meth c H locs cells slots Q (F0 m pc ls vs) := by
  intro T hT X
  obtain ⟨v, st₀, t, T', L, h0, X', hL, e1, e2, ⟨hv, hR, -, hz, hk⟩, stp⟩ := hr T hT X
  cases hv
  rw [h0] at hz hk
  have hD : ∀ q, ga_D ad K q → A q := fun q ⟨id, sk, h1, h2, h3⟩ => by rw [h3]; exact hA id sk h1 h2
  obtain ⟨t2, a1, b1⟩ := kk T'.heap (locs ++ L) (by rw [e1]; exact hR)
    ⟨Nat.le_trans hS.1 (by rw [e1]; exact hz), fun q h1 h2 => by rw [e1, hk q (Nat.lt_of_lt_of_le h1 hS.1) (fun z => h2 (hD q z))]; exact hS.2.1 q h1 h2, fun q hq => by
      rcases List.mem_append.mp hq with h | h
      · exact hS.2.2 q h
      · exact hD _ (hL q h)⟩ T' rfl X'
  exact ⟨t2, stp t2 a1, b1⟩
theorem ga_blind {D : va_G} {E : Nat → ClassId} {ad : Nat → Nat} {K : gaK} {av : List Value} : FrameBlind (va_Pc av (fun U => ga_R D E ad K M U.heap ∧ va_K D gaT (gaA E) U)) := by
  intro a U g mk q
  obtain ⟨q0, q1, q2⟩ := q
  exact ⟨q0, q1, va_K.moved (u := U) (U := U.calling g mk a) (Vm.Alike.refl U.vm) q2⟩
theorem ga_callB {R : Room} {s : State} {args : Array Value} {idx : Nat} {y : MethodName} {cy : ByteArray} {maxL n d' : Nat} {ret : Option FieldType} (hts : ∀ w ∈ gaTb, w.before args s = true) (hl : Cond.methodLink own idx y ∈ gaTb) (hm : ga_wm y cy maxL ret n) (hd : d' < dp) (h1 : dp ≤ R.frames) (h2 : 64 * dp ≤ R.locals) :
    CallB R s args own idx y cy maxL ret (.code y cy maxL ret :: gaTb) (ga_rm d') 0 0 n := by
  obtain ⟨m1, m2, m3, m4, m5⟩ := hm
  refine callB_of n hts (ws' := gaTb) (fun w hw => ?_) rfl rfl rfl (hts _ m2) (hts _ hl) ⟨m3.1, m3.2, m4⟩ ⟨?_, ?_⟩
  · rcases List.mem_cons.mp hw with rfl | hw
    · exact ⟨m1, ga_good m1⟩
    · exact ⟨hw, ga_good hw⟩
  · show d' + 1 ≤ R.frames
    omega
  · show 8 + (maxL + 11) + 64 * d' ≤ R.locals
    omega
theorem ga_callV {idx ci id n maxL d' : Nat} {y : MethodName} {cy : ByteArray} {ret : Option FieldType} {K : gaK} {r : Option gaV} {rf : Nat → Option (Option Nat)} (as : List gaV) (C : ga_C X cc own dp) (hK : ga_K X = K) (d : gd cc pc (.invokevirtual idx) 3 pc') (hl : Cond.methodLink own idx y ∈ gaTb) (hm : ga_wm y cy maxL ret n) (hv : ga_wv y ci) (hk : K id = some (.inr (.inl (ci, rf)))) (hM : ga_Met y cy maxL ret d' K M (.inr (some id) :: as) r M1) (hd : d' < dp) (hn : as.length = n) (hst : st = as.reverse ++ .inr (some id) :: rest) (hw : rest.length ≤ 8) (kk : ga_W X M1 pc' lv (r.toList ++ rest)) : ga_W X M pc lv st := by
  obtain ⟨p, l, e, R, s, m, args, below, meth, c, D, E, A, nL, cells, slots, Q, ad, K'⟩ := X
  obtain ⟨hx, hb, hml, hown, hts, hKK, hlk, hA, hf1, hf2, hf3, hf4⟩ := C
  obtain ⟨d, rfl⟩ := d
  have hK : K' = K := hK
  subst hK
  obtain ⟨⟨q, hq, hqy⟩, hv1, hv2⟩ := hv
  intro H locs ls hR hS hL
  obtain ⟨q', hq', cell, q1, q2, q3, q4⟩ := hR.1 id _ hk
  cases hq.symm.trans hq'
  refine ga_after (rs := rest.map (ga_cv ad)) (va_runV (C := y.cls) (Ts := gaTb) (As := as.map (ga_cv ad)) (b := ad id) ⟨hx, hb, hml, hown, hts⟩ (hM l D E ad) ⟨ga_callB hts hl hm hd hf1 hf2, hts _ hv1, hts _ hv2⟩ ⟨ga_blind, ⟨cell, q1, by rw [q3]; rfl, by rw [q2, ← hqy]; exact (hKK.1 ci q hq).2.1⟩, fun U hU hW => ⟨rfl, by rw [hU]; exact hR, va_K.moved hW.alike hKK⟩⟩ rfl (by rw [List.length_map]; exact hn) hL.1 ?_ (lv_room (ga_lenI hw)) d ⟨hf3, hf4⟩) hS hA (fun H1 locs1 hR1 hS1 => ?_)
  · show st.map (ga_cv ad) = _
    rw [hst]
    simp [ga_cv, va_rf]
  · have k' := kk H1 locs1 ls hR1 hS1 hL
    rw [List.map_append] at k'
    cases r <;> exact k'
theorem ga_callS {idx n maxL d' : Nat} {y : MethodName} {cy : ByteArray} {ret : Option FieldType} {K : gaK} {r : Option gaV} (as : List gaV) (C : ga_C X cc own dp) (hK : ga_K X = K) (d : gd cc pc (.invokestatic idx) 3 pc') (hl : Cond.methodLink own idx y ∈ gaTb) (hm : ga_wm y cy maxL ret n) (hv : Cond.static y ∈ gaTb) (hM : ga_Met y cy maxL ret d' K M as r M1) (hd : d' < dp) (hn : as.length = n) (hst : st = as.reverse ++ rest) (hw : rest.length ≤ 8) (kk : ga_W X M1 pc' lv (r.toList ++ rest)) : ga_W X M pc lv st := by
  obtain ⟨p, l, e, R, s, m, args, below, meth, c, D, E, A, nL, cells, slots, Q, ad, K'⟩ := X
  obtain ⟨hx, hb, hml, hown, hts, hKK, hlk, hA, hf1, hf2, hf3, hf4⟩ := C
  obtain ⟨d, rfl⟩ := d
  have hK : K' = K := hK
  subst hK
  intro H locs ls hR hS hL
  refine ga_after (rs := rest.map (ga_cv ad)) (va_runS (Ts := gaTb) (As := as.map (ga_cv ad)) ⟨hx, hb, hml, hown, hts⟩ (hM l D E ad) ⟨ga_callB hts hl hm hd hf1 hf2, hts _ hv⟩ ⟨ga_blind, fun U hU hW => ⟨rfl, by rw [hU]; exact hR, va_K.moved hW.alike hKK⟩⟩ rfl (by rw [List.length_map]; exact hn) hL.1 ?_ (lv_room (ga_lenI hw)) d ⟨hf3, hf4⟩) hS hA (fun H1 locs1 hR1 hS1 => ?_)
  · show st.map (ga_cv ad) = _
    rw [hst]
    simp
  · have k' := kk H1 locs1 ls hR1 hS1 hL
    rw [List.map_append] at k'
    cases r <;> exact k'
theorem ga_cV0 {idx ci id maxL d' : Nat} {y : MethodName} {cy : ByteArray} {ret : Option FieldType} {K : gaK} {r : Option gaV} {rf : Nat → Option (Option Nat)} (C : ga_C X cc own dp) (hK : ga_K X = K) (d : gd cc pc (.invokevirtual idx) 3 pc') (hl : Cond.methodLink own idx y ∈ gaTb) (hm : ga_wm y cy maxL ret 0) (hv : ga_wv y ci) (hk : K id = some (.inr (.inl (ci, rf)))) (hM : ga_Met y cy maxL ret d' K M [.inr (some id)] r M1) (hd : d' < dp) (hw : rest.length ≤ 8) (kk : ga_W X M1 pc' lv (r.toList ++ rest)) : ga_W X M pc lv (.inr (some id) :: rest) := ga_callV [] C hK d hl hm hv hk hM hd rfl rfl hw kk
theorem ga_cS0 {idx maxL d' : Nat} {y : MethodName} {cy : ByteArray} {ret : Option FieldType} {K : gaK} {r : Option gaV} (C : ga_C X cc own dp) (hK : ga_K X = K) (d : gd cc pc (.invokestatic idx) 3 pc') (hl : Cond.methodLink own idx y ∈ gaTb) (hm : ga_wm y cy maxL ret 0) (hv : Cond.static y ∈ gaTb) (hM : ga_Met y cy maxL ret d' K M [] r M1) (hd : d' < dp) (hw : rest.length ≤ 8) (kk : ga_W X M1 pc' lv (r.toList ++ rest)) : ga_W X M pc lv (rest) := ga_callS [] C hK d hl hm hv hM hd rfl rfl hw kk
theorem ga_cV1 {idx ci id maxL d' : Nat} {b1 : gaV} {y : MethodName} {cy : ByteArray} {ret : Option FieldType} {K : gaK} {r : Option gaV} {rf : Nat → Option (Option Nat)} (C : ga_C X cc own dp) (hK : ga_K X = K) (d : gd cc pc (.invokevirtual idx) 3 pc') (hl : Cond.methodLink own idx y ∈ gaTb) (hm : ga_wm y cy maxL ret 1) (hv : ga_wv y ci) (hk : K id = some (.inr (.inl (ci, rf)))) (hM : ga_Met y cy maxL ret d' K M [.inr (some id), b1] r M1) (hd : d' < dp) (hw : rest.length ≤ 8) (kk : ga_W X M1 pc' lv (r.toList ++ rest)) : ga_W X M pc lv (b1 :: .inr (some id) :: rest) := ga_callV [b1] C hK d hl hm hv hk hM hd rfl rfl hw kk
theorem ga_cS1 {idx maxL d' : Nat} {b1 : gaV} {y : MethodName} {cy : ByteArray} {ret : Option FieldType} {K : gaK} {r : Option gaV} (C : ga_C X cc own dp) (hK : ga_K X = K) (d : gd cc pc (.invokestatic idx) 3 pc') (hl : Cond.methodLink own idx y ∈ gaTb) (hm : ga_wm y cy maxL ret 1) (hv : Cond.static y ∈ gaTb) (hM : ga_Met y cy maxL ret d' K M [b1] r M1) (hd : d' < dp) (hw : rest.length ≤ 8) (kk : ga_W X M1 pc' lv (r.toList ++ rest)) : ga_W X M pc lv (b1 :: rest) := ga_callS [b1] C hK d hl hm hv hM hd rfl rfl hw kk
theorem ga_cV2 {idx ci id maxL d' : Nat} {b1 b2 : gaV} {y : MethodName} {cy : ByteArray} {ret : Option FieldType} {K : gaK} {r : Option gaV} {rf : Nat → Option (Option Nat)} (C : ga_C X cc own dp) (hK : ga_K X = K) (d : gd cc pc (.invokevirtual idx) 3 pc') (hl : Cond.methodLink own idx y ∈ gaTb) (hm : ga_wm y cy maxL ret 2) (hv : ga_wv y ci) (hk : K id = some (.inr (.inl (ci, rf)))) (hM : ga_Met y cy maxL ret d' K M [.inr (some id), b1, b2] r M1) (hd : d' < dp) (hw : rest.length ≤ 8) (kk : ga_W X M1 pc' lv (r.toList ++ rest)) : ga_W X M pc lv (b2 :: b1 :: .inr (some id) :: rest) := ga_callV [b1, b2] C hK d hl hm hv hk hM hd rfl rfl hw kk
theorem ga_cS2 {idx maxL d' : Nat} {b1 b2 : gaV} {y : MethodName} {cy : ByteArray} {ret : Option FieldType} {K : gaK} {r : Option gaV} (C : ga_C X cc own dp) (hK : ga_K X = K) (d : gd cc pc (.invokestatic idx) 3 pc') (hl : Cond.methodLink own idx y ∈ gaTb) (hm : ga_wm y cy maxL ret 2) (hv : Cond.static y ∈ gaTb) (hM : ga_Met y cy maxL ret d' K M [b1, b2] r M1) (hd : d' < dp) (hw : rest.length ≤ 8) (kk : ga_W X M1 pc' lv (r.toList ++ rest)) : ga_W X M pc lv (b2 :: b1 :: rest) := ga_callS [b1, b2] C hK d hl hm hv hM hd rfl rfl hw kk
theorem ga_cV3 {idx ci id maxL d' : Nat} {b1 b2 b3 : gaV} {y : MethodName} {cy : ByteArray} {ret : Option FieldType} {K : gaK} {r : Option gaV} {rf : Nat → Option (Option Nat)} (C : ga_C X cc own dp) (hK : ga_K X = K) (d : gd cc pc (.invokevirtual idx) 3 pc') (hl : Cond.methodLink own idx y ∈ gaTb) (hm : ga_wm y cy maxL ret 3) (hv : ga_wv y ci) (hk : K id = some (.inr (.inl (ci, rf)))) (hM : ga_Met y cy maxL ret d' K M [.inr (some id), b1, b2, b3] r M1) (hd : d' < dp) (hw : rest.length ≤ 8) (kk : ga_W X M1 pc' lv (r.toList ++ rest)) : ga_W X M pc lv (b3 :: b2 :: b1 :: .inr (some id) :: rest) := ga_callV [b1, b2, b3] C hK d hl hm hv hk hM hd rfl rfl hw kk
theorem ga_cS3 {idx maxL d' : Nat} {b1 b2 b3 : gaV} {y : MethodName} {cy : ByteArray} {ret : Option FieldType} {K : gaK} {r : Option gaV} (C : ga_C X cc own dp) (hK : ga_K X = K) (d : gd cc pc (.invokestatic idx) 3 pc') (hl : Cond.methodLink own idx y ∈ gaTb) (hm : ga_wm y cy maxL ret 3) (hv : Cond.static y ∈ gaTb) (hM : ga_Met y cy maxL ret d' K M [b1, b2, b3] r M1) (hd : d' < dp) (hw : rest.length ≤ 8) (kk : ga_W X M1 pc' lv (r.toList ++ rest)) : ga_W X M pc lv (b3 :: b2 :: b1 :: rest) := ga_callS [b1, b2, b3] C hK d hl hm hv hM hd rfl rfl hw kk
theorem ga_cV4 {idx ci id maxL d' : Nat} {b1 b2 b3 b4 : gaV} {y : MethodName} {cy : ByteArray} {ret : Option FieldType} {K : gaK} {r : Option gaV} {rf : Nat → Option (Option Nat)} (C : ga_C X cc own dp) (hK : ga_K X = K) (d : gd cc pc (.invokevirtual idx) 3 pc') (hl : Cond.methodLink own idx y ∈ gaTb) (hm : ga_wm y cy maxL ret 4) (hv : ga_wv y ci) (hk : K id = some (.inr (.inl (ci, rf)))) (hM : ga_Met y cy maxL ret d' K M [.inr (some id), b1, b2, b3, b4] r M1) (hd : d' < dp) (hw : rest.length ≤ 8) (kk : ga_W X M1 pc' lv (r.toList ++ rest)) : ga_W X M pc lv (b4 :: b3 :: b2 :: b1 :: .inr (some id) :: rest) := ga_callV [b1, b2, b3, b4] C hK d hl hm hv hk hM hd rfl rfl hw kk
theorem ga_cS4 {idx maxL d' : Nat} {b1 b2 b3 b4 : gaV} {y : MethodName} {cy : ByteArray} {ret : Option FieldType} {K : gaK} {r : Option gaV} (C : ga_C X cc own dp) (hK : ga_K X = K) (d : gd cc pc (.invokestatic idx) 3 pc') (hl : Cond.methodLink own idx y ∈ gaTb) (hm : ga_wm y cy maxL ret 4) (hv : Cond.static y ∈ gaTb) (hM : ga_Met y cy maxL ret d' K M [b1, b2, b3, b4] r M1) (hd : d' < dp) (hw : rest.length ≤ 8) (kk : ga_W X M1 pc' lv (r.toList ++ rest)) : ga_W X M pc lv (b4 :: b3 :: b2 :: b1 :: rest) := ga_callS [b1, b2, b3, b4] C hK d hl hm hv hM hd rfl rfl hw kk
theorem ga_cV5 {idx ci id maxL d' : Nat} {b1 b2 b3 b4 b5 : gaV} {y : MethodName} {cy : ByteArray} {ret : Option FieldType} {K : gaK} {r : Option gaV} {rf : Nat → Option (Option Nat)} (C : ga_C X cc own dp) (hK : ga_K X = K) (d : gd cc pc (.invokevirtual idx) 3 pc') (hl : Cond.methodLink own idx y ∈ gaTb) (hm : ga_wm y cy maxL ret 5) (hv : ga_wv y ci) (hk : K id = some (.inr (.inl (ci, rf)))) (hM : ga_Met y cy maxL ret d' K M [.inr (some id), b1, b2, b3, b4, b5] r M1) (hd : d' < dp) (hw : rest.length ≤ 8) (kk : ga_W X M1 pc' lv (r.toList ++ rest)) : ga_W X M pc lv (b5 :: b4 :: b3 :: b2 :: b1 :: .inr (some id) :: rest) := ga_callV [b1, b2, b3, b4, b5] C hK d hl hm hv hk hM hd rfl rfl hw kk
theorem ga_cS5 {idx maxL d' : Nat} {b1 b2 b3 b4 b5 : gaV} {y : MethodName} {cy : ByteArray} {ret : Option FieldType} {K : gaK} {r : Option gaV} (C : ga_C X cc own dp) (hK : ga_K X = K) (d : gd cc pc (.invokestatic idx) 3 pc') (hl : Cond.methodLink own idx y ∈ gaTb) (hm : ga_wm y cy maxL ret 5) (hv : Cond.static y ∈ gaTb) (hM : ga_Met y cy maxL ret d' K M [b1, b2, b3, b4, b5] r M1) (hd : d' < dp) (hw : rest.length ≤ 8) (kk : ga_W X M1 pc' lv (r.toList ++ rest)) : ga_W X M pc lv (b5 :: b4 :: b3 :: b2 :: b1 :: rest) := ga_callS [b1, b2, b3, b4, b5] C hK d hl hm hv hM hd rfl rfl hw kk
theorem ga_cV6 {idx ci id maxL d' : Nat} {b1 b2 b3 b4 b5 b6 : gaV} {y : MethodName} {cy : ByteArray} {ret : Option FieldType} {K : gaK} {r : Option gaV} {rf : Nat → Option (Option Nat)} (C : ga_C X cc own dp) (hK : ga_K X = K) (d : gd cc pc (.invokevirtual idx) 3 pc') (hl : Cond.methodLink own idx y ∈ gaTb) (hm : ga_wm y cy maxL ret 6) (hv : ga_wv y ci) (hk : K id = some (.inr (.inl (ci, rf)))) (hM : ga_Met y cy maxL ret d' K M [.inr (some id), b1, b2, b3, b4, b5, b6] r M1) (hd : d' < dp) (hw : rest.length ≤ 8) (kk : ga_W X M1 pc' lv (r.toList ++ rest)) : ga_W X M pc lv (b6 :: b5 :: b4 :: b3 :: b2 :: b1 :: .inr (some id) :: rest) := ga_callV [b1, b2, b3, b4, b5, b6] C hK d hl hm hv hk hM hd rfl rfl hw kk
theorem ga_cS6 {idx maxL d' : Nat} {b1 b2 b3 b4 b5 b6 : gaV} {y : MethodName} {cy : ByteArray} {ret : Option FieldType} {K : gaK} {r : Option gaV} (C : ga_C X cc own dp) (hK : ga_K X = K) (d : gd cc pc (.invokestatic idx) 3 pc') (hl : Cond.methodLink own idx y ∈ gaTb) (hm : ga_wm y cy maxL ret 6) (hv : Cond.static y ∈ gaTb) (hM : ga_Met y cy maxL ret d' K M [b1, b2, b3, b4, b5, b6] r M1) (hd : d' < dp) (hw : rest.length ≤ 8) (kk : ga_W X M1 pc' lv (r.toList ++ rest)) : ga_W X M pc lv (b6 :: b5 :: b4 :: b3 :: b2 :: b1 :: rest) := ga_callS [b1, b2, b3, b4, b5, b6] C hK d hl hm hv hM hd rfl rfl hw kk
end GB

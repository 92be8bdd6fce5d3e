/-! ===== the machine: an array made and put into a final field ===== -/
theorem mnt_inl {n id : Nat} : ¬ mnt (.inl n) id := fun h => h
theorem frh.up {K : gaK} {id id' : Nat} {sk : gaS} (h : frh K id) (hn : id ≠ id') (hm : ¬ mnt sk id) : frh (Kup K id' sk) id := by
  refine ⟨by rw [Kup_ne hn]; exact h.1, fun i s hi => ?_, h.2.2⟩
  by_cases e : i = id'
  · rw [e, Kup_self] at hi
    cases hi
    exact hm
  · rw [Kup_ne e] at hi
    exact h.2.1 i s hi
theorem mnt_rfu {ci k id : Nat} {rf : Nat → Option (Option Nat)} {r : Option Nat} (h : ¬ mnt (.inr (.inl (ci, rf))) id) (hr : r ≠ some id) : ¬ mnt (.inr (.inl (ci, rfu rf k r))) id := by
  intro ⟨j, hj⟩
  unfold rfu at hj
  by_cases e : j = k
  · rw [if_pos e] at hj
    exact hr (Option.some.inj hj)
  · rw [if_neg e] at hj
    exact h ⟨j, hj⟩
theorem frh.mn {K : gaK} {x id N m : Nat} (h : frh K x) (hx : ¬ (id ≤ x ∧ x ≤ id + N)) : frh (Kmn K id N m) x := by
  refine ⟨by rw [Kmn_out hx]; exact h.1, fun i s hi => ?_, h.2.2⟩
  by_cases e : id ≤ i ∧ i ≤ id + N
  · by_cases e2 : i = id
    · rw [e2, Kmn_0] at hi
      cases hi
      intro ⟨j, hj, q⟩
      have := Option.some.inj q
      omega
    · rw [Kmn_r ⟨by omega, e.2⟩] at hi
      cases hi
      exact mnt_inl
  · rw [Kmn_out e] at hi
    exact h.2.1 i s hi
def frb (lo hi : Nat) (v : gaV) : Bool := match v with
  | .inr (some i) => decide (i < lo ∨ hi < i)
  | _ => true
theorem frb_ne {lo hi x : Nat} {v : gaV} (h : frb lo hi v = true) (h1 : lo ≤ x) (h2 : x ≤ hi) : v ≠ .inr (some x) := by
  intro e
  subst e
  have := of_decide_eq_true (show decide (x < lo ∨ hi < x) = true from h)
  omega
def frbo (lo hi : Nat) (v : Option gaV) : Bool := match v with
  | some v => frb lo hi v
  | none => true
theorem frv_of {lo hi : Nat} {lv : List (Option gaV)} {st : List gaV} (h : (lv.all (frbo lo hi) && st.all (frb lo hi)) = true) : ∀ x, lo ≤ x → x ≤ hi → frv x lv st := by
  intro x h1 h2
  have h' := (Bool.and_eq_true_iff).mp h
  exact ⟨fun v hv => frb_ne (List.all_eq_true.mp h'.1 (some v) hv) h1 h2, fun v hv => frb_ne (List.all_eq_true.mp h'.2 v hv) h1 h2⟩
section FL
variable {T : gaX → gaK → Nat → Nat → Prop} {X : gaX} {cc : ByteArray} {own nm : String} {dp c d : Nat} {K : gaK} {M : gaM} {pc p1 p2 : Nat} {lv : List (Option gaV)} {st : List gaV}
abbrev fty (own : String) (ci k : Nat) (ty : FieldType) : Prop := ∀ q, gaT[ci]? = some q → (q.2.1 k).2.2.2 = true ∧ (q.2.1 k).1 = own ∧ gaTy ci k = ty
theorem nar_a {t : FieldType} : ∀ a, narrow (.array t) (va_rf a) = va_rf a := fun a => by cases a <;> rfl
theorem fit_a {t : FieldType} : ∀ a, fits (.array t) (va_rf a) = true := fun a => by cases a <;> rfl
theorem nar_o {t : String} : ∀ a, narrow (.object t) (va_rf a) = va_rf a := fun a => by cases a <;> rfl
theorem fit_o {t : String} : ∀ a, fits (.object t) (va_rf a) = true := fun a => by cases a <;> rfl
theorem z_fi {idx ci k o N : Nat} {n : Int} {rf : Nat → Option (Option Nat)} (id : Nat) (Z : ga_Z T X cc own dp nm (c + 1) (d + N) K) (hin : nm = "<init>") (d1 : gd cc pc (.newarray .int) 2 p1) (d2 : gd cc p1 (.putfield idx) 3 p2) (f : ga_fld own idx ci k) (hw : fty own ci k (.array .int)) (hn : n = (N : Int)) (hN : N ≤ 100000) (harr : Cond.arrayClass .int ∈ gaTb) (hk : K o = some (.inr (.inl (ci, rf)))) (ho : o ≠ id) (hf : frh K id) (hv : frv id lv (.inr (some o) :: st))
    (kk : ∀ X' K', K' = Kup (Kup K id (.inl N)) o (.inr (.inl (ci, rfu rf k (some id)))) → K' o = some (.inr (.inl (ci, rfu rf k (some id)))) → (∀ x, frh K x → x ≠ id → x ≠ o → frh K' x) → ga_Z T X' cc own dp nm c d K' → ga_W X' (setr M id (fun _ => 0)) p2 lv st) : ga_W X M pc lv (.inl n :: .inr (some o) :: st) := by
  refine z_newi Z d1 hn hN harr hf hv (fun X1 Z1 => ?_)
  refine z_putRF (ty := .array .int) Z1 hin d2 f hw nar_a fit_a (show Kup K id (.inl N) o = _ by rw [Kup_ne ho]; exact hk) (fun X2 Z2 => ?_)
  refine kk X2 _ rfl Kup_self (fun x hx h1 h2 => ?_) Z2
  exact (hx.up h1 mnt_inl).up h2 (mnt_rfu (hx.2.1 o _ hk) (fun q => h1 (Option.some.inj q).symm))
theorem z_fz {idx ci k o N : Nat} {n : Int} {rf : Nat → Option (Option Nat)} (id : Nat) (Z : ga_Z T X cc own dp nm (c + 1) (d + N) K) (hin : nm = "<init>") (d1 : gd cc pc (.newarray .boolean) 2 p1) (d2 : gd cc p1 (.putfield idx) 3 p2) (f : ga_fld own idx ci k) (hw : fty own ci k (.array .boolean)) (hn : n = (N : Int)) (hN : N ≤ 100000) (harr : Cond.arrayClass .boolean ∈ gaTb) (hk : K o = some (.inr (.inl (ci, rf)))) (ho : o ≠ id) (hf : frh K id) (hv : frv id lv (.inr (some o) :: st))
    (kk : ∀ X' K', K' = Kup (Kup K id (.inr (.inr (1, N, fun _ => none)))) o (.inr (.inl (ci, rfu rf k (some id)))) → K' o = some (.inr (.inl (ci, rfu rf k (some id)))) → (∀ x, frh K x → x ≠ id → x ≠ o → frh K' x) → ga_Z T X' cc own dp nm c d K' → ga_W X' (setr M id (fun _ => 0)) p2 lv st) : ga_W X M pc lv (.inl n :: .inr (some o) :: st) := by
  refine z_newz (g := fun _ => none) Z d1 hn hN harr hf hv (fun X1 Z1 => ?_)
  refine z_putRF (ty := .array .boolean) Z1 hin d2 f hw nar_a fit_a (show Kup K id _ o = _ by rw [Kup_ne ho]; exact hk) (fun X2 Z2 => ?_)
  refine kk X2 _ rfl Kup_self (fun x hx h1 h2 => ?_) Z2
  exact (hx.up (sk := .inr (.inr (1, N, fun _ => none))) h1 (fun ⟨j, _, q⟩ => by cases q)).up h2 (mnt_rfu (hx.2.1 o _ hk) (fun q => h1 (Option.some.inj q).symm))
theorem s2I : ("[" ++ (FieldType.array FieldType.int).toString) = "[[I" := by decide
theorem z_fm {idm idx ci k o N m : Nat} {x y : Int} {rf : Nat → Option (Option Nat)} (id : Nat) (Z : ga_Z T X cc own dp nm (c + (1 + N)) (d + (N + N * m)) K) (hin : nm = "<init>") (d1 : gd cc pc (.multianewarray idm 2) 4 p1) (d2 : gd cc p1 (.putfield idx) 3 p2) (f : ga_fld own idx ci k) (hw : fty own ci k (.array (.array .int))) (hx1 : x = (N : Int)) (hy1 : y = (m : Int)) (hN : N ≤ 1000) (hm : m ≤ 10000) (hcl : Cond.classLink own idm "[[I" ∈ gaTb) (harr : Cond.arrayClass .int ∈ gaTb) (hk : K o = some (.inr (.inl (ci, rf)))) (ho : ¬ (id ≤ o ∧ o ≤ id + N)) (hf : ∀ x, id ≤ x → x ≤ id + N → frh K x) (hv : ∀ x, id ≤ x → x ≤ id + N → frv x lv (.inr (some o) :: st))
    (kk : ∀ X' K', K' = Kup (Kmn K id N m) o (.inr (.inl (ci, rfu rf k (some id)))) → K' o = some (.inr (.inl (ci, rfu rf k (some id)))) → (∀ x, frh K x → ¬ (id ≤ x ∧ x ≤ id + N) → x ≠ o → frh K' x) → ga_Z T X' cc own dp nm c d K' → ga_W X' (Mmn M id N) p2 lv st) : ga_W X M pc lv (.inl y :: .inl x :: .inr (some o) :: st) := by
  refine z_mna Z d1 hx1 hy1 hN hm (by rw [s2I]; exact hcl) harr hf hv (fun X1 Z1 => ?_)
  refine z_putRF (ty := .array (.array .int)) Z1 hin d2 f hw nar_a fit_a (show Kmn K id N m o = _ by rw [Kmn_out ho]; exact hk) (fun X2 Z2 => ?_)
  refine kk X2 _ rfl Kup_self (fun x hx h1 h2 => ?_) Z2
  exact (hx.mn h1).up h2 (mnt_rfu (hx.2.1 o _ hk) (fun q => h1 (by have := Option.some.inj q; omega)))
end FL
theorem fr_fi {K : gaK} {o id N ci k x : Nat} {rf : Nat → Option (Option Nat)} (hk : K o = some (.inr (.inl (ci, rf)))) (hx : frh K x) (h1 : x ≠ id) (h2 : x ≠ o) : frh (Kup (Kup K id (.inl N)) o (.inr (.inl (ci, rfu rf k (some id))))) x :=
  (hx.up h1 mnt_inl).up h2 (mnt_rfu (hx.2.1 o _ hk) (fun q => h1 (Option.some.inj q).symm))
theorem fr_fz {K : gaK} {o id N ci k x : Nat} {rf : Nat → Option (Option Nat)} (hk : K o = some (.inr (.inl (ci, rf)))) (hx : frh K x) (h1 : x ≠ id) (h2 : x ≠ o) : frh (Kup (Kup K id (.inr (.inr (1, N, fun _ => none)))) o (.inr (.inl (ci, rfu rf k (some id))))) x :=
  (hx.up (sk := .inr (.inr (1, N, fun _ => none))) h1 (fun ⟨j, _, q⟩ => by cases q)).up h2 (mnt_rfu (hx.2.1 o _ hk) (fun q => h1 (Option.some.inj q).symm))
theorem fr_fm {K : gaK} {o id N m ci k x : Nat} {rf : Nat → Option (Option Nat)} (hk : K o = some (.inr (.inl (ci, rf)))) (hx : frh K x) (h1 : ¬ (id ≤ x ∧ x ≤ id + N)) (h2 : x ≠ o) : frh (Kup (Kmn K id N m) o (.inr (.inl (ci, rfu rf k (some id))))) x :=
  (hx.mn h1).up h2 (mnt_rfu (hx.2.1 o _ hk) (fun q => h1 (by have := Option.some.inj q; omega)))

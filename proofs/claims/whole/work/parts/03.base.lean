/-! ===== an abstract machine: ints as Int, references as numbers of cells, the heap as a skeleton K and a memory M of ints ===== -/
abbrev gaV : Type := Int ⊕ Option Nat
abbrev gaM : Type := Nat → Nat → Int
abbrev gaS : Type := Nat ⊕ ((Nat × (Nat → Option (Option Nat))) ⊕ (Nat × Nat × (Nat → Option Nat)))
abbrev gaK : Type := Nat → Option gaS
def ga_cv (ad : Nat → Nat) (v : gaV) : Value := match v with
  | .inl x => .int (Int32.ofInt x)
  | .inr r => va_rf (r.map ad)
abbrev ok (x : Int) : Prop := -2147483648 ≤ x ∧ x ≤ 2147483647
abbrev ix (x : Int) (n : Nat) : Prop := 0 ≤ x ∧ x < (n : Int)
def gg (c : Prop) [Decidable c] {α : Type} (x : Option α) : Option α := if c then x else none
def gB {α β : Type} (a : α) (k : α → Option β) : Option β := k a
def gb {α β : Type} (a : Option α) (k : α → Option β) : Option β := match a with
  | none => none
  | some x => k x
theorem gg_some {c : Prop} [Decidable c] {α : Type} {x : Option α} {r : α} (h : gg c x = some r) : c ∧ x = some r := by
  unfold gg at h
  by_cases hc : c
  · rw [if_pos hc] at h; exact ⟨hc, h⟩
  · rw [if_neg hc] at h; cases h
theorem gg_pos {c : Prop} [Decidable c] {α : Type} {x : Option α} (h : c) : gg c x = x := if_pos h
theorem gB_eq {α β : Type} (a : α) (k : α → Option β) : gB a k = k a := rfl
theorem gB_some {α β : Type} {a : α} {k : α → Option β} {r : β} (h : gB a k = some r) : ∃ x, x = a ∧ k x = some r := ⟨a, rfl, h⟩
theorem gb_none {α β : Type} {k : α → Option β} : gb none k = none := rfl
theorem gb_of {α β : Type} {a : α} {k : α → Option β} : gb (some a) k = k a := rfl
theorem gb_some {α β : Type} {a : Option α} {k : α → Option β} {r : β} (h : gb a k = some r) : ∃ x, a = some x ∧ k x = some r := by
  cases a with
  | none => cases h
  | some x => exact ⟨x, rfl, h⟩
theorem gb_eq {α β : Type} {a : Option α} {x : α} {k : α → Option β} (h : a = some x) : gb a k = k x := by rw [h]; rfl
def gb2 {α β γ : Type} (a : Option (α × β)) (k : α → β → Option γ) : Option γ := match a with
  | none => none
  | some (x, y) => k x y
def gb3 {α β δ γ : Type} (a : Option (α × β × δ)) (k : α → β → δ → Option γ) : Option γ := match a with
  | none => none
  | some (x, y, z) => k x y z
def gb4 {α β δ ε γ : Type} (a : Option (α × β × δ × ε)) (k : α → β → δ → ε → Option γ) : Option γ := match a with
  | none => none
  | some (x, y, z, w) => k x y z w
def gb5 {α β δ ε ζ γ : Type} (a : Option (α × β × δ × ε × ζ)) (k : α → β → δ → ε → ζ → Option γ) : Option γ := match a with
  | none => none
  | some (x, y, z, w, u) => k x y z w u
theorem gb2_some {α β γ : Type} {a : Option (α × β)} {k : α → β → Option γ} {r : γ} (h : gb2 a k = some r) : ∃ x y, a = some (x, y) ∧ k x y = some r := by
  rcases a with _ | ⟨x, y⟩
  · cases h
  · exact ⟨x, y, rfl, h⟩
theorem gb3_some {α β δ γ : Type} {a : Option (α × β × δ)} {k : α → β → δ → Option γ} {r : γ} (h : gb3 a k = some r) : ∃ x y z, a = some (x, y, z) ∧ k x y z = some r := by
  rcases a with _ | ⟨x, y, z⟩
  · cases h
  · exact ⟨x, y, z, rfl, h⟩
theorem gb4_some {α β δ ε γ : Type} {a : Option (α × β × δ × ε)} {k : α → β → δ → ε → Option γ} {r : γ} (h : gb4 a k = some r) : ∃ x y z w, a = some (x, y, z, w) ∧ k x y z w = some r := by
  rcases a with _ | ⟨x, y, z, w⟩
  · cases h
  · exact ⟨x, y, z, w, rfl, h⟩
theorem gb5_some {α β δ ε ζ γ : Type} {a : Option (α × β × δ × ε × ζ)} {k : α → β → δ → ε → ζ → Option γ} {r : γ} (h : gb5 a k = some r) : ∃ x y z w u, a = some (x, y, z, w, u) ∧ k x y z w u = some r := by
  rcases a with _ | ⟨x, y, z, w, u⟩
  · cases h
  · exact ⟨x, y, z, w, u, rfl, h⟩
theorem gb2_eq {α β γ : Type} {a : Option (α × β)} {x : α} {y : β} {k : α → β → Option γ} (h : a = some (x, y)) : gb2 a k = k x y := by rw [h]; rfl
theorem gb3_eq {α β δ γ : Type} {a : Option (α × β × δ)} {x : α} {y : β} {z : δ} {k : α → β → δ → Option γ} (h : a = some (x, y, z)) : gb3 a k = k x y z := by rw [h]; rfl
theorem gb4_eq {α β δ ε γ : Type} {a : Option (α × β × δ × ε)} {x : α} {y : β} {z : δ} {w : ε} {k : α → β → δ → ε → Option γ} (h : a = some (x, y, z, w)) : gb4 a k = k x y z w := by rw [h]; rfl
theorem gb5_eq {α β δ ε ζ γ : Type} {a : Option (α × β × δ × ε × ζ)} {x : α} {y : β} {z : δ} {w : ε} {u : ζ} {k : α → β → δ → ε → ζ → Option γ} (h : a = some (x, y, z, w, u)) : gb5 a k = k x y z w u := by rw [h]; rfl
def ga_st (M : gaM) (i j : Nat) (v : Int) : gaM := fun a b => if a = i ∧ b = j then v else M a b
theorem ga_st_self (M : gaM) (i j : Nat) (v : Int) : ga_st M i j v i j = v := by simp [ga_st]
theorem ga_st_id {M : gaM} {i j a b : Nat} {v : Int} (h : a ≠ i) : ga_st M i j v a b = M a b := by simp [ga_st, h]
theorem ga_st_ix {M : gaM} {i j a b : Nat} {v : Int} (h : b ≠ j) : ga_st M i j v a b = M a b := by simp [ga_st, h]
-- the classes and array classes; the tables' words that stay
def gaTb : List Cond := lw_tbl.filter goodWord
theorem ga_tb {w : Cond} (h : w ∈ lw_tbl) (hg : goodWord w = true) : w ∈ gaTb := List.mem_filter.mpr ⟨h, hg⟩
abbrev gaT : List vw_C := [(RX0, TX0, 5), (RX1, TX1, 7), (RX2, TX2, 4), (RX3, TX3, 6), (RX4, TX4, 10), (RX5, TX5, 11), (RX6, TX6, 35), (RJx4a65c, TJx4a65c, 3)]
def gaTy (ci : Nat) : Nat → FieldType := match ci with
  | 0 => tyX0
  | 1 => tyX1
  | 2 => tyX2
  | 3 => tyX3
  | 4 => tyX4
  | 5 => tyX5
  | 6 => tyX6
  | _ => tyJx4a65c
abbrev gaA (E : Nat → ClassId) : List (ClassId × FieldType) := [(E 0, .int), (E 1, .boolean), (E 2, .array .int), (E 3, .object "java/lang/Object")]
theorem gaT_all {P : Nat → vw_C → Prop} (h0 : P 0 (RX0, TX0, 5)) (h1 : P 1 (RX1, TX1, 7)) (h2 : P 2 (RX2, TX2, 4)) (h3 : P 3 (RX3, TX3, 6)) (h4 : P 4 (RX4, TX4, 10)) (h5 : P 5 (RX5, TX5, 11)) (h6 : P 6 (RX6, TX6, 35)) (h7 : P 7 (RJx4a65c, TJx4a65c, 3)) : ∀ (ci : Nat) (q : vw_C), gaT[ci]? = some q → P ci q := by
  intro ci q h
  match ci, h with
  | 0, h => cases h; exact h0
  | 1, h => cases h; exact h1
  | 2, h => cases h; exact h2
  | 3, h => cases h; exact h3
  | 4, h => cases h; exact h4
  | 5, h => cases h; exact h5
  | 6, h => cases h; exact h6
  | 7, h => cases h; exact h7
  | n + 8, h => simp [gaT] at h
theorem ga_lay {C : String} {T : u_T} {N : Nat} (h : ∀ w ∈ u_ws C T N, w ∈ lw_tbl) : ∀ w ∈ u_ws C T N, w ∈ gaTb := by
  intro w hw
  refine ga_tb (h w hw) ?_
  obtain ⟨k, -, rfl⟩ := List.mem_map.mp hw
  unfold u_lay
  split <;> rfl
theorem gaT_in : ∀ (ci : Nat) (q : vw_C), gaT[ci]? = some q → ∀ w ∈ u_ws q.1 q.2.1 q.2.2, w ∈ gaTb :=
  gaT_all (P := fun _ q => ∀ w ∈ u_ws q.1 q.2.1 q.2.2, w ∈ gaTb) (ga_lay inX0) (ga_lay inX1) (ga_lay inX2) (ga_lay inX3) (ga_lay inX4) (ga_lay inX5) (ga_lay inX6) (ga_lay inJx4a65c)
theorem gaT_ty : ∀ (ci : Nat) (q : vw_C), gaT[ci]? = some q → ∀ k, k < q.2.2 → parseFieldDescriptor (q.2.1 k).2.2.1 = some (gaTy ci k) :=
  gaT_all (P := fun ci q => ∀ k, k < q.2.2 → parseFieldDescriptor (q.2.1 k).2.2.1 = some (gaTy ci k)) tyX0_ok tyX1_ok tyX2_ok tyX3_ok tyX4_ok tyX5_ok tyX6_ok tyJx4a65c_ok
theorem gaT_nm : ∀ (ci : Nat) (q : vw_C), gaT[ci]? = some q → ∀ a, a < q.2.2 → ∀ b, b < q.2.2 → a ≠ b → (q.2.1 a).2.1 ≠ (q.2.1 b).2.1 :=
  gaT_all (P := fun _ q => ∀ a, a < q.2.2 → ∀ b, b < q.2.2 → a ≠ b → (q.2.1 a).2.1 ≠ (q.2.1 b).2.1) nmX0 nmX1 nmX2 nmX3 nmX4 nmX5 nmX6 nmJx4a65c
theorem ga_good {w : Cond} (h : w ∈ gaTb) : (w.onTables && w.keeps) = true ∨ ∃ ty, w = .arrayClass ty := good_of_word (List.mem_filter.mp h).2
-- the picture
def ga_F (ad : Nat → Nat) (M : gaM) (id : Nat) (rf : Nat → Option (Option Nat)) (k : Nat) : Value := match rf k with
  | none => .int (Int32.ofInt (M id k))
  | some r => va_rf (r.map ad)
def ga_G (ad : Nat → Nat) (M : gaM) (id t : Nat) (g : Nat → Option Nat) (j : Nat) : Value := if t = 1 then .int (Int32.ofInt (M id j)) else va_rf ((g j).map ad)
def ga_At (D : va_G) (E : Nat → ClassId) (ad : Nat → Nat) (M : gaM) (H : Heap) (id : Nat) (sk : gaS) : Prop := match sk with
  | .inl n => H[ad id]? = some (arrV (E 0) n (fun j => .int (Int32.ofInt (M id j))))
  | .inr (.inl (ci, rf)) => ∃ q : vw_C, gaT[ci]? = some q ∧ t_OB (ad id) (D.1 ci) q.2.2 (D.2 ci) H (ga_F ad M id rf)
  | .inr (.inr (t, n, g)) => H[ad id]? = some (arrV (E t) n (ga_G ad M id t g))
def ga_R (D : va_G) (E : Nat → ClassId) (ad : Nat → Nat) (K : gaK) (M : gaM) (H : Heap) : Prop := (∀ (id : Nat) (sk : gaS), K id = some sk → ga_At D E ad M H id sk) ∧ ∀ i j : Nat, K i ≠ none → K j ≠ none → ad i = ad j → i = j
def ga_L (ad : Nat → Nat) (lv : List (Option gaV)) (nL : Nat) (ls : Array Slot) : Prop := ls.size = nL ∧ lv_wf ls ∧ lv.length = nL ∧ ∀ (i : Nat) (v : gaV), lv[i]? = some (some v) → ls[i]? = some (.val (ga_cv ad v))
abbrev gaX : Type := Program × Launch × Env × Room × State × MethodId × Array Value × List Frame × Method × Code × va_G × (Nat → ClassId) × (Nat → Prop) × Nat × Nat × Nat × (State → Prop) × (Nat → Nat) × gaK
def ga_W (X : gaX) (M : gaM) (pc : Nat) (lv : List (Option gaV)) (st : List gaV) : Prop := match X with
  | (p, l, e, R, s, m, args, below, meth, c, D, E, A, nL, cells, slots, Q, ad, K) => ∀ (H : Heap) (locs : List Loc) (ls : Array Slot), ga_R D E ad K M H → va_S A s.heap H locs → ga_L ad lv nL ls → W p l e R s m args below meth c H locs cells slots Q (F0 m pc ls (st.map (ga_cv ad)))
def ga_wr (sk : gaS) : Prop := match sk with
  | .inr (.inr (t, _, _)) => t ≠ 3
  | _ => True
def ga_C (X : gaX) (cc : ByteArray) (own : String) (dp : Nat) : Prop := match X with
  | (p, l, e, R, s, m, args, below, meth, c, D, E, A, nL, cells, slots, Q, ad, K) => p.tables.exec = Jvm.exec ∧ c.code = cc ∧ c.maxLocals = nL ∧ s.vm.findClass own = some m.cls ∧ (∀ w ∈ gaTb, w.before args s = true) ∧ va_K D gaT (gaA E) s ∧ meth.locks = false ∧ (∀ (id : Nat) (sk : gaS), K id = some sk → ga_wr sk → A (ad id)) ∧ dp ≤ R.frames ∧ 64 * dp ≤ R.locals ∧ cells ≤ R.cells ∧ slots ≤ R.slots
def ga_K (X : gaX) : gaK := match X with
  | (_, _, _, _, _, _, _, _, _, _, _, _, _, _, _, _, _, _, K) => K
def ga_Qc (D : va_G) (E : Nat → ClassId) (A : Nat → Prop) (ad : Nat → Nat) (K : gaK) (r : Option gaV) (M1 : gaM) : Array Value → State → Outcome → State → Prop := fun _ st oc t => oc = .returned (r.map (ga_cv ad)) ∧ ga_R D E ad K M1 t.heap ∧ va_K D gaT (gaA E) t ∧ va_F A st t
def ga_Rt (X : gaX) (ret : Option FieldType) (r : Option gaV) (M1 : gaM) : Prop := match X with
  | (p, l, e, R, s, m, args, below, meth, c, D, E, A, nL, cells, slots, Q, ad, K) => meth.sig.returnType = ret ∧ Q = MQ below (ga_Qc D E A ad K r M1) args s cells slots A
def ga_D (ad : Nat → Nat) (K : gaK) : Nat → Prop := fun q => ∃ (id : Nat) (sk : gaS), K id = some sk ∧ ga_wr sk ∧ q = ad id
def ga_rm (dp : Nat) : Room := { frames := dp, cells := 0, slots := 0, locals := 64 * dp }
def ga_Met (y : MethodName) (cc : ByteArray) (maxL : Nat) (ret : Option FieldType) (dp : Nat) (K : gaK) (M : gaM) (as : List gaV) (r : Option gaV) (M1 : gaM) : Prop :=
  ∀ (l : Launch) (D : va_G) (E : Nat → ClassId) (ad : Nat → Nat), Met l y (.code y cc maxL ret :: gaTb) (ga_rm dp) (va_Pc (as.map (ga_cv ad)) (fun U => ga_R D E ad K M U.heap ∧ va_K D gaT (gaA E) U)) (ga_Qc D E (ga_D ad K) ad K r M1) 0 0 (ga_D ad K)
-- small facts
theorem ga_cat (ad : Nat → Nat) (v : gaV) : (ga_cv ad v).category = 1 := by
  cases v with
  | inl x => rfl
  | inr r => cases r <;> rfl
theorem ga_lget {ad : Nat → Nat} {lv : List (Option gaV)} {nL : Nat} {ls : Array Slot} (h : ga_L ad lv nL ls) {i : Nat} {v : gaV} (hi : lv[i]? = some (some v)) : ls[i]? = some (.val (ga_cv ad v)) := h.2.2.2 i v hi
def ga_pr (ad : Nat → Nat) : Nat → List (Option gaV) → List (Nat × Value)
  | _, [] => []
  | i, none :: l => ga_pr ad (i + 1) l
  | i, some v :: l => (i, ga_cv ad v) :: ga_pr ad (i + 1) l
theorem ga_pr_in (ad : Nat → Nat) : ∀ (l : List (Option gaV)) (n i : Nat) (v : gaV), l[i]? = some (some v) → (n + i, ga_cv ad v) ∈ ga_pr ad n l
  | [], n, i, v, h => by simp at h
  | none :: l, n, 0, v, h => by simp at h
  | some w :: l, n, 0, v, h => by
    have e : w = v := by simpa using h
    subst e
    exact List.mem_cons_self
  | none :: l, n, i + 1, v, h => by
    have h1 := ga_pr_in ad l (n + 1) i v (by simpa using h)
    rw [show n + (i + 1) = n + 1 + i by omega]
    exact h1
  | some w :: l, n, i + 1, v, h => by
    have h1 := ga_pr_in ad l (n + 1) i v (by simpa using h)
    rw [show n + (i + 1) = n + 1 + i by omega]
    exact List.mem_cons_of_mem _ h1
theorem ga_pr_out (ad : Nat → Nat) : ∀ (l : List (Option gaV)) (n : Nat) (q : Nat × Value), q ∈ ga_pr ad n l → ∃ (i : Nat) (v : gaV), l[i]? = some (some v) ∧ q = (n + i, ga_cv ad v)
  | [], n, q, h => by simp [ga_pr] at h
  | none :: l, n, q, h => by
    obtain ⟨i, v, h1, h2⟩ := ga_pr_out ad l (n + 1) q h
    exact ⟨i + 1, v, by simpa using h1, by rw [h2]; congr 1; omega⟩
  | some w :: l, n, q, h => by
    rcases List.mem_cons.mp h with h | h
    · exact ⟨0, w, rfl, by rw [h]; rfl⟩
    · obtain ⟨i, v, h1, h2⟩ := ga_pr_out ad l (n + 1) q h
      exact ⟨i + 1, v, by simpa using h1, by rw [h2]; congr 1; omega⟩
theorem ga_L.has {ad : Nat → Nat} {lv : List (Option gaV)} {nL : Nat} {ls : Array Slot} (h : ga_L ad lv nL ls) : lv_has ls nL (ga_pr ad 0 lv) := by
  refine ⟨h.1, h.2.1, fun q hq => ?_⟩
  obtain ⟨i, v, h1, h2⟩ := ga_pr_out ad lv 0 q hq
  rw [h2]
  simpa using h.2.2.2 i v h1
theorem ga_L.store {ad : Nat → Nat} {lv lv' : List (Option gaV)} {nL : Nat} {ls' : Array Slot} {i : Nat} {v : gaV} (hlen : lv.length = nL) (hl : lv.set i (some v) = lv') (h' : lv_has ls' nL ((i, ga_cv ad v) :: (ga_pr ad 0 lv).filter (fun q => !(q.1 == i) && !(q.1 + 1 == i && q.2.category == 2)))) : ga_L ad lv' nL ls' := by
  refine ⟨h'.1, h'.2.1, by rw [← hl, List.length_set]; exact hlen, fun j w hj => ?_⟩
  subst hl
  by_cases e : j = i
  · subst e
    have hlt : j < lv.length := by
      have := (List.getElem?_eq_some_iff.mp hj).1
      simpa using this
    rw [List.getElem?_set_self hlt] at hj
    cases hj
    exact h'.2.2 (j, ga_cv ad v) List.mem_cons_self
  · rw [List.getElem?_set_ne (Ne.symm e)] at hj
    have h1 := ga_pr_in ad lv 0 j w hj
    rw [Nat.zero_add] at h1
    refine h'.2.2 (j, ga_cv ad w) (List.mem_cons_of_mem _ (List.mem_filter.mpr ⟨h1, ?_⟩))
    simp [e, ga_cat]
theorem ga_L.of {ad : Nat → Nat} {as : List gaV} {n : Nat} {ls : Array Slot} (hn : as.length ≤ n) (h : lv_has ls n (lv_args 0 (as.map (ga_cv ad)))) : ga_L ad (as.map some ++ List.replicate (n - as.length) none) n ls := by
  refine ⟨h.1, h.2.1, by simp; omega, fun i v hi => ?_⟩
  have key : ∀ (as : List gaV) (k i : Nat) (v : gaV), as[i]? = some v → (k + i, ga_cv ad v) ∈ lv_args k (as.map (ga_cv ad)) := by
    intro as
    induction as with
    | nil => intro k i v h; simp at h
    | cons a as ih =>
      intro k i v h
      have hc : (ga_cv ad a).category = 1 := ga_cat ad a
      cases i with
      | zero =>
        have e : a = v := by simpa using h
        subst e
        exact List.mem_cons_self
      | succ i =>
        have h1 := ih (k + 1) i v (by simpa using h)
        rw [show k + (i + 1) = k + 1 + i by omega]
        have e : lv_args k ((a :: as).map (ga_cv ad)) = (k, ga_cv ad a) :: lv_args (k + 1) (as.map (ga_cv ad)) := by
          show (k, ga_cv ad a) :: lv_args (if (ga_cv ad a).category = 2 then k + 2 else k + 1) (as.map (ga_cv ad)) = _
          rw [hc]
          rfl
        rw [e]
        exact List.mem_cons_of_mem _ h1
  by_cases hlt : i < as.length
  · rw [List.getElem?_append_left (by simpa using hlt)] at hi
    rw [List.getElem?_map] at hi
    have h2 : as[i]? = some v := by
      cases h9 : as[i]? with
      | none => rw [h9] at hi; cases hi
      | some w => rw [h9] at hi; cases hi; rfl
    have := h.2.2 _ (key as 0 i v h2)
    simpa using this
  · rw [List.getElem?_append_right (by simpa using Nat.le_of_not_lt hlt)] at hi
    rw [List.getElem?_replicate] at hi
    split at hi <;> cases hi
theorem ga_len (as : List gaV) (ad : Nat → Nat) : (lg_sl (as.map (ga_cv ad))).length = as.length := by
  induction as with
  | nil => rfl
  | cons a as ih =>
    have hc : (ga_cv ad a).category = 1 := ga_cat ad a
    simp only [List.map_cons, lg_sl] at ih ⊢
    simp [hc, ih]

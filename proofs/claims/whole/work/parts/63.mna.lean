/-! ===== the machine: arrays of arrays ===== -/
def adm (ad : Nat → Nat) (id N a : Nat) : Nat → Nat := fun x => if id ≤ x ∧ x ≤ id + N then a + (x - id) else ad x
def Kmn (K : gaK) (id N m : Nat) : gaK := fun x => if x = id then some (.inr (.inr (2, N, fun j => some (id + 1 + j)))) else if id < x ∧ x ≤ id + N then some (.inl m) else K x
def Mmn (M : gaM) (id N : Nat) : gaM := fun x => if id ≤ x ∧ x ≤ id + N then fun _ => 0 else M x
theorem adm_in {ad : Nat → Nat} {id N a x : Nat} (h : id ≤ x ∧ x ≤ id + N) : adm ad id N a x = a + (x - id) := if_pos h
theorem adm_out {ad : Nat → Nat} {id N a x : Nat} (h : ¬ (id ≤ x ∧ x ≤ id + N)) : adm ad id N a x = ad x := if_neg h
theorem Kmn_0 {K : gaK} {id N m : Nat} : Kmn K id N m id = some (.inr (.inr (2, N, fun j => some (id + 1 + j)))) := if_pos rfl
theorem Kmn_r {K : gaK} {id N m x : Nat} (h : id < x ∧ x ≤ id + N) : Kmn K id N m x = some (.inl m) := by
  unfold Kmn
  rw [if_neg (by omega), if_pos h]
theorem Kmn_out {K : gaK} {id N m x : Nat} (h : ¬ (id ≤ x ∧ x ≤ id + N)) : Kmn K id N m x = K x := by
  unfold Kmn
  rw [if_neg (by omega), if_neg (by omega)]
theorem cv_adm {ad : Nat → Nat} {id N a : Nat} {v : gaV} (h : ∀ x, id ≤ x → x ≤ id + N → v ≠ .inr (some x)) : ga_cv (adm ad id N a) v = ga_cv ad v := by
  rcases v with x | r
  · rfl
  · cases r with
    | none => rfl
    | some r =>
      show va_rf (some (adm ad id N a r)) = va_rf (some (ad r))
      rw [adm_out (fun e => h r e.1 e.2 rfl)]
theorem ga_At.adm {D : va_G} {E : Nat → ClassId} {ad : Nat → Nat} {M : gaM} {H : Heap} {i id N a : Nat} {sk : gaS} (h : ga_At D E ad M H i sk) (hi : ¬ (id ≤ i ∧ i ≤ id + N)) (hm : ∀ x, id ≤ x → x ≤ id + N → ¬ mnt sk x) : ga_At D E (adm ad id N a) M H i sk := by
  rcases sk with n | ⟨ci, rf⟩ | ⟨t, n, g⟩
  · show H[_root_.Jvm.Pilot.CGreenHoursLaw_law_r9412_d7ccee.adm ad id N a i]? = _
    rw [adm_out hi]; exact h
  · obtain ⟨q, h1, h2⟩ := h
    refine ⟨q, h1, ?_⟩
    have e : ga_F (_root_.Jvm.Pilot.CGreenHoursLaw_law_r9412_d7ccee.adm ad id N a) M i rf = ga_F ad M i rf := by
      funext k
      unfold ga_F
      cases hr : rf k with
      | none => rfl
      | some r =>
        cases r with
        | none => rfl
        | some r =>
          show va_rf (some _) = va_rf (some _)
          rw [adm_out (fun e => hm r e.1 e.2 ⟨k, hr⟩)]
    rw [e, adm_out hi]
    exact h2
  · show H[_root_.Jvm.Pilot.CGreenHoursLaw_law_r9412_d7ccee.adm ad id N a i]? = some (arrV (E t) n (ga_G _ M i t g))
    have e : arrV (E t) n (ga_G (_root_.Jvm.Pilot.CGreenHoursLaw_law_r9412_d7ccee.adm ad id N a) M i t g) = arrV (E t) n (ga_G ad M i t g) := by
      refine arrV_ext (fun k hk => ?_)
      unfold ga_G
      cases hr : g k with
      | none => rfl
      | some r =>
        show (if t = 1 then _ else va_rf (some _)) = (if t = 1 then _ else va_rf (some _))
        rw [adm_out (fun e => hm r e.1 e.2 ⟨k, hk, hr⟩)]
    rw [e, adm_out hi]
    exact h
theorem ga_R.mna {D : va_G} {E : Nat → ClassId} {ad : Nat → Nat} {K : gaK} {M : gaM} {H H1 : Heap} {id N m : Nat} (h : ga_R D E ad K M H) (hf : ∀ x, id ≤ x → x ≤ id + N → frh K x) (hH : ∀ q : Nat, q < H.size → H1[q]? = H[q]?) (ho : H1[H.size]? = some (arrV (E 2) N (fun j => .ref (H.size + 1 + j)))) (hr : ∀ j, j < N → H1[H.size + 1 + j]? = some (arrV (E 0) m (fun _ => .int 0))) : ga_R D E (adm ad id N H.size) (Kmn K id N m) (Mmn M id N) H1 := by
  refine ⟨fun j sj hj => ?_, fun i j hi hj e => ?_⟩
  · by_cases c : id ≤ j ∧ j ≤ id + N
    · by_cases c2 : j = id
      · subst c2
        rw [Kmn_0] at hj
        cases hj
        show H1[adm ad j N H.size j]? = some (arrV (E 2) N (ga_G (adm ad j N H.size) (Mmn M j N) j 2 (fun i => some (j + 1 + i))))
        rw [adm_in ⟨Nat.le_refl j, by omega⟩, Nat.sub_self, Nat.add_zero, ho]
        congr 1
        refine arrV_ext (fun k hk => ?_)
        unfold ga_G
        rw [if_neg (by decide)]
        show Value.ref (H.size + 1 + k) = va_rf (some (adm ad j N H.size (j + 1 + k)))
        rw [adm_in ⟨by omega, by omega⟩, show H.size + (j + 1 + k - j) = H.size + 1 + k by omega]
        rfl
      · rw [Kmn_r ⟨by omega, c.2⟩] at hj
        cases hj
        show H1[adm ad id N H.size j]? = some (arrV (E 0) m (fun k => .int (Int32.ofInt (Mmn M id N j k))))
        have e0 : Mmn M id N j = fun _ => 0 := if_pos c
        rw [adm_in c, e0]
        have := hr (j - id - 1) (by omega)
        rw [show H.size + 1 + (j - id - 1) = H.size + (j - id) by omega] at this
        exact this
    · rw [Kmn_out c] at hj
      have h1 := h.1 j sj hj
      exact (h1.kept (hH _ h1.lt) (show Mmn M id N j = M j from if_neg c)).adm c (fun x q1 q2 => (hf x q1 q2).2.1 j sj hj)
  · by_cases c : id ≤ i ∧ i ≤ id + N
    · by_cases d : id ≤ j ∧ j ≤ id + N
      · rw [adm_in c, adm_in d] at e
        omega
      · rw [Kmn_out d] at hj
        obtain ⟨sj, hsj⟩ := Option.ne_none_iff_exists'.mp hj
        have := (h.1 j sj hsj).lt
        rw [adm_in c, adm_out d] at e
        omega
    · rw [Kmn_out c] at hi
      obtain ⟨si, hsi⟩ := Option.ne_none_iff_exists'.mp hi
      have := (h.1 i si hsi).lt
      by_cases d : id ≤ j ∧ j ≤ id + N
      · rw [adm_out c, adm_in d] at e
        omega
      · rw [Kmn_out d] at hj
        rw [adm_out c, adm_out d] at e
        exact h.2 i j hi hj e
theorem Kmn_dom {K : gaK} {id N m : Nat} : ∀ i, K i ≠ none → Kmn K id N m i ≠ none := fun i h => by
  by_cases e : id ≤ i ∧ i ≤ id + N
  · by_cases e2 : i = id
    · rw [e2, Kmn_0]; exact fun q => by cases q
    · rw [Kmn_r ⟨by omega, e.2⟩]; exact fun q => by cases q
  · rw [Kmn_out e]; exact h
theorem adm_dom {ad : Nat → Nat} {K : gaK} {id N a : Nat} (hf : ∀ x, id ≤ x → x ≤ id + N → frh K x) : ∀ i, K i ≠ none ∨ pin i → adm ad id N a i = ad i := fun i h => adm_out (fun e => by
  have hfi := hf i e.1 e.2
  rcases h with h | h
  · exact h hfi.1
  · exact hfi.2.2 h)

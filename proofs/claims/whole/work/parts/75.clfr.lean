/-! ===== what stays fresh behind the constructor (printed by wip/whole/law.py) ===== -/
set_option maxRecDepth 20000 in
theorem Kcl_fr {K : gaK} {x : Nat} (hk0 : K 0 = some (.inr (.inl (5, gn_X5)))) (f0 : frh K x) (hx : 84 ≤ x) : frh (Kcl K) x := by
  obtain ⟨K1, eK1⟩ : ∃ Kx, Kx = Kup (Ksi (Kup K 1 (.inr (.inl (2, gn_X2))))) 0 (.inr (.inl (5, (rfu gn_X5 0 (some 1))))) := ⟨_, rfl⟩
  have hk1 : K1 0 = some (.inr (.inl (5, (rfu gn_X5 0 (some 1))))) := by rw [eK1]; exact Kup_self
  have f1 : frh K1 x := by rw [eK1]; exact fr_fo (show (Ksi (Kup K 1 (.inr (.inl (2, gn_X2))))) 0 = _ from hk0) (Ksi_fr Kup_self (f0.up (id' := 1) (by omega) gm_X2) (by omega) (by omega)) (by omega) (by omega)
  obtain ⟨K2, eK2⟩ : ∃ Kx, Kx = Kup (Kup (Kup K1 2 (.inr (.inl (7, gn_AL)))) 2 (.inr (.inl (7, rfu gn_AL 1 (some 99))))) 0 (.inr (.inl (5, (rfu (rfu gn_X5 0 (some 1)) 1 (some 2))))) := ⟨_, rfl⟩
  have hk2 : K2 0 = some (.inr (.inl (5, (rfu (rfu gn_X5 0 (some 1)) 1 (some 2))))) := by rw [eK2]; exact Kup_self
  have f2 : frh K2 x := by rw [eK2]; exact fr_fo (show (Kup (Kup K1 2 (.inr (.inl (7, gn_AL)))) 2 (.inr (.inl (7, rfu gn_AL 1 (some 99))))) 0 = _ from hk1) ((f1.up (id' := 2) (by omega) gm_AL).up (id' := 2) (by omega) (mnt_rfu gm_AL (fun q => by have := Option.some.inj q; have := f0.2.2; omega))) (by omega) (by omega)
  obtain ⟨K3, eK3⟩ : ∃ Kx, Kx = Kup (Kup K2 3 (.inl 6)) 0 (.inr (.inl (5, (rfu (rfu (rfu gn_X5 0 (some 1)) 1 (some 2)) 2 (some 3))))) := ⟨_, rfl⟩
  have hk3 : K3 0 = some (.inr (.inl (5, (rfu (rfu (rfu gn_X5 0 (some 1)) 1 (some 2)) 2 (some 3))))) := by rw [eK3]; exact Kup_self
  have f3 : frh K3 x := by rw [eK3]; exact fr_fi hk2 f2 (by omega) (by omega)
  obtain ⟨K4, eK4⟩ : ∃ Kx, Kx = Kup (Kpl (Kup K3 4 (.inr (.inl (0, gn_X0)))) 4) 0 (.inr (.inl (5, (rfu (rfu (rfu (rfu gn_X5 0 (some 1)) 1 (some 2)) 2 (some 3)) 3 (some 4))))) := ⟨_, rfl⟩
  have hk4 : K4 0 = some (.inr (.inl (5, (rfu (rfu (rfu (rfu gn_X5 0 (some 1)) 1 (some 2)) 2 (some 3)) 3 (some 4))))) := by rw [eK4]; exact Kup_self
  have f4 : frh K4 x := by rw [eK4]; exact fr_fo (show (Kpl (Kup K3 4 (.inr (.inl (0, gn_X0)))) 4) 0 = _ from hk3) (Kpl_fr Kup_self (f3.up (id' := 4) (by omega) gm_X0) (by omega) (by omega)) (by omega) (by omega)
  obtain ⟨K5, eK5⟩ : ∃ Kx, Kx = Kup (Kpl (Kup K4 5 (.inr (.inl (0, gn_X0)))) 5) 0 (.inr (.inl (5, (rfu (rfu (rfu (rfu (rfu gn_X5 0 (some 1)) 1 (some 2)) 2 (some 3)) 3 (some 4)) 4 (some 5))))) := ⟨_, rfl⟩
  have hk5 : K5 0 = some (.inr (.inl (5, (rfu (rfu (rfu (rfu (rfu gn_X5 0 (some 1)) 1 (some 2)) 2 (some 3)) 3 (some 4)) 4 (some 5))))) := by rw [eK5]; exact Kup_self
  have f5 : frh K5 x := by rw [eK5]; exact fr_fo (show (Kpl (Kup K4 5 (.inr (.inl (0, gn_X0)))) 5) 0 = _ from hk4) (Kpl_fr Kup_self (f4.up (id' := 5) (by omega) gm_X0) (by omega) (by omega)) (by omega) (by omega)
  obtain ⟨K6, eK6⟩ : ∃ Kx, Kx = Kup (Kpr (Kup K5 6 (.inr (.inl (1, gn_X1))))) 0 (.inr (.inl (5, (rfu (rfu (rfu (rfu (rfu (rfu gn_X5 0 (some 1)) 1 (some 2)) 2 (some 3)) 3 (some 4)) 4 (some 5)) 5 (some 6))))) := ⟨_, rfl⟩
  have hk6 : K6 0 = some (.inr (.inl (5, (rfu (rfu (rfu (rfu (rfu (rfu gn_X5 0 (some 1)) 1 (some 2)) 2 (some 3)) 3 (some 4)) 4 (some 5)) 5 (some 6))))) := by rw [eK6]; exact Kup_self
  have f6 : frh K6 x := by rw [eK6]; exact fr_fo (show (Kpr (Kup K5 6 (.inr (.inl (1, gn_X1))))) 0 = _ from hk5) (Kpr_fr Kup_self (f5.up (id' := 6) (by omega) gm_X1) (by omega) (by omega)) (by omega) (by omega)
  obtain ⟨K7, eK7⟩ : ∃ Kx, Kx = Kup (Ktr (Kup K6 7 (.inr (.inl (3, gn_X3))))) 0 (.inr (.inl (5, (rfu (rfu (rfu (rfu (rfu (rfu (rfu gn_X5 0 (some 1)) 1 (some 2)) 2 (some 3)) 3 (some 4)) 4 (some 5)) 5 (some 6)) 6 (some 7))))) := ⟨_, rfl⟩
  have hk7 : K7 0 = some (.inr (.inl (5, (rfu (rfu (rfu (rfu (rfu (rfu (rfu gn_X5 0 (some 1)) 1 (some 2)) 2 (some 3)) 3 (some 4)) 4 (some 5)) 5 (some 6)) 6 (some 7))))) := by rw [eK7]; exact Kup_self
  have f7 : frh K7 x := by rw [eK7]; exact fr_fo (show (Ktr (Kup K6 7 (.inr (.inl (3, gn_X3))))) 0 = _ from hk6) (Ktr_fr Kup_self (f6.up (id' := 7) (by omega) gm_X3) (by omega) (by omega)) (by omega) (by omega)
  obtain ⟨K8, eK8⟩ : ∃ Kx, Kx = Kup (Kup K7 8 (.inl 40)) 0 (.inr (.inl (5, (rfu (rfu (rfu (rfu (rfu (rfu (rfu (rfu gn_X5 0 (some 1)) 1 (some 2)) 2 (some 3)) 3 (some 4)) 4 (some 5)) 5 (some 6)) 6 (some 7)) 7 (some 8))))) := ⟨_, rfl⟩
  have hk8 : K8 0 = some (.inr (.inl (5, (rfu (rfu (rfu (rfu (rfu (rfu (rfu (rfu gn_X5 0 (some 1)) 1 (some 2)) 2 (some 3)) 3 (some 4)) 4 (some 5)) 5 (some 6)) 6 (some 7)) 7 (some 8))))) := by rw [eK8]; exact Kup_self
  have f8 : frh K8 x := by rw [eK8]; exact fr_fi hk7 f7 (by omega) (by omega)
  have e : Kcl K = K8 := by rw [eK8, eK7, eK6, eK5, eK4, eK3, eK2, eK1]; rfl
  rw [e]
  exact f8
theorem Kcl_dom {K : gaK} : ∀ i, K i ≠ none → Kcl K i ≠ none := fun i h => (Kup_dom _ (Kup_dom _ (Kup_dom _ (Ktr_dom _ (Kup_dom _ (Kup_dom _ (Kpr_dom _ (Kup_dom _ (Kup_dom _ (Kpl_dom _ (Kup_dom _ (Kup_dom _ (Kpl_dom _ (Kup_dom _ (Kup_dom _ (Kup_dom _ (Kup_dom _ (Kup_dom _ (Kup_dom _ (Kup_dom _ (Ksi_dom _ (Kup_dom _ h))))))))))))))))))))))

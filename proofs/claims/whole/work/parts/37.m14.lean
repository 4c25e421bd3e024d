/-- reading on well: the reference at the token of that number, the class's memory beside it -/
def Rd (m j : Nat) (σ μ0 μ : Mem) : Prop := FrD μ0 μ ∧ μ 0 8 = μ0 0 8 ∧ AtJ j μ ∧ j ≤ m ∧ σ 1 6 = j ∧ Tk m (μ0 1) (μ0 0 3) σ
theorem Rd_J {m j : Nat} {σ μ0 μ : Mem} (h : Rd m j σ μ0 μ) : TkJ m j μ σ := Tk_J (Tk_D h.2.2.2.2.2 h.1) h.2.2.1 h.2.2.2.1
theorem Rd_take {m j : Nat} {σ τ μ0 μ ν : Mem} (h : Rd m j σ μ0 μ) (hne : ¬ μ 0 5 = 0) (hF : FrL μ ν) (hA : AtJ (j + 1) ν) (e6 : τ 1 6 = σ 1 6 + 1) (e11 : τ 11 = σ 11) (e12 : τ 12 = σ 12) : Rd m (j + 1) τ μ0 ν := by
  have hj := (Rd_J h).2.1
  obtain ⟨h1, h2, h3, h4, h5, h6⟩ := h
  exact ⟨FrD_tr h1 (FrD_L hF), by rw [hF.2 8 (by omega), h2], hA, by omega, by rw [e6, h5]; omega, Tk_s h6 e11 e12⟩
theorem Rd_store {m j : Nat} {σ τ μ0 μ : Mem} (h : Rd m j σ μ0 μ) (c : Nat) (i x : Int) (hc : (c = 0 ∧ 18 ≤ i ∧ i ≤ 21) ∨ (c = 2 ∧ 4 ≤ i) ∨ ((c = 3 ∨ c = 6) ∧ 8 ≤ i) ∨ ((c = 4 ∨ c = 5) ∧ 16 ≤ i)) (e6 : τ 1 6 = σ 1 6) (e11 : τ 11 = σ 11) (e12 : τ 12 = σ 12) : Rd m j τ μ0 (up μ c i x) := by
  obtain ⟨h1, h2, h3, h4, h5, h6⟩ := h
  exact ⟨FrD_up h1 c i x (by omega), by rw [up_ne _ (fun w => by omega)]; exact h2, AtJ_w h3 c i x (by omega), h4, by rw [e6]; exact h5, Tk_s h6 e11 e12⟩


/-! the class's tokens beside the reference's -/
def Tk (m : Nat) (f : Int → Int) (n : Int) (σ : Mem) : Prop := (∀ j : Nat, j < m → (0 ≤ Stk f n j ∧ Stk f n j < n) ∧ σ 12 j = Stk f n j ∧ σ 11 j = cdT f n (Stk f n j)) ∧ Stk f n m = n ∧ σ 11 m = -2 ∧ σ 12 m = n
def TkJ (m j : Nat) (μ σ : Mem) : Prop := μ 0 6 = σ 12 j ∧ (μ 0 5 = 0 ↔ j = m) ∧ (μ 0 5 = 3 ↔ σ 11 j = -59) ∧ (μ 0 5 = 2 ↔ 0 ≤ σ 11 j) ∧ (μ 0 5 = 2 → μ 0 7 = σ 11 j) ∧ (μ 0 5 = 1 ↔ (σ 11 j = -115 ∨ σ 11 j = -108 ∨ σ 11 j = -100 ∨ σ 11 j = -112)) ∧ (μ 0 5 = 1 → μ 0 7 = -σ 11 j) ∧ (σ 11 j = -2 ↔ j = m)
theorem Tk_J {m j : Nat} {μ σ : Mem} (h : Tk m (μ 1) (μ 0 3) σ) (hj : AtJ j μ) (hjm : j ≤ m) : TkJ m j μ σ := by
  obtain ⟨t1, t2, t3, t4⟩ := h
  obtain ⟨a1, a2⟩ := hj
  unfold TkJ
  rcases (show j = m ∨ j < m by omega) with q | q
  · subst q
    rw [t2] at a1 a2
    rcases a2 with ⟨-, b2, -⟩ | ⟨⟨-, b⟩, -⟩
    · rw [t3, t4, b2]
      refine ⟨a1, ?_⟩
      simp
    · omega
  · obtain ⟨u1, u2, u3⟩ := t1 j q
    have hne : ¬ j = m := by omega
    rcases a2 with ⟨b, -⟩ | ⟨-, tk, -⟩
    · omega
    · rw [u2, u3]
      refine ⟨a1, ?_⟩
      rcases tk with ⟨c1, c2, c3⟩ | ⟨c1, c2, c3⟩ | ⟨c1, c2⟩ | ⟨c1, c2⟩
      · rw [c1]
        refine ⟨⟨fun w => by omega, fun w => absurd w hne⟩, ⟨fun w => by omega, fun w => by omega⟩, ⟨fun _ => c3, fun _ => rfl⟩, fun _ => c2, ⟨fun w => by omega, fun w => by omega⟩, fun w => by omega, ⟨fun w => by omega, fun w => absurd w hne⟩⟩
      · rw [c1]
        refine ⟨⟨fun w => by omega, fun w => absurd w hne⟩, ⟨fun w => by omega, fun w => by omega⟩, ⟨fun w => by omega, fun w => by omega⟩, fun w => by omega, ⟨fun _ => c3, fun _ => rfl⟩, fun _ => c2, ⟨fun w => by omega, fun w => absurd w hne⟩⟩
      · rw [c1]
        refine ⟨⟨fun w => by omega, fun w => absurd w hne⟩, ⟨fun _ => c2, fun _ => rfl⟩, ⟨fun w => by omega, fun w => by omega⟩, fun w => by omega, ⟨fun w => by omega, fun w => by omega⟩, fun w => by omega, ⟨fun w => by omega, fun w => absurd w hne⟩⟩
      · rw [c1]
        refine ⟨⟨fun w => by omega, fun w => absurd w hne⟩, ⟨fun w => by omega, fun w => by omega⟩, ⟨fun w => by omega, fun w => by omega⟩, fun w => by omega, ⟨fun w => by omega, fun w => by omega⟩, fun w => by omega, ⟨fun w => by omega, fun w => absurd w hne⟩⟩
/-- what a text's reading leaves alone in the reference -/
def FrD (μ ν : Mem) : Prop := (∀ c : Nat, (c = 1 ∨ 6 < c) → ν c = μ c) ∧ (∀ j : Int, (j < 4 ∨ (8 < j ∧ j < 18) ∨ 21 < j) → ν 0 j = μ 0 j) ∧ (∀ j : Int, j < 4 → ν 2 j = μ 2 j) ∧ (∀ j : Int, j < 8 → ν 3 j = μ 3 j ∧ ν 6 j = μ 6 j) ∧ (∀ j : Int, j < 16 → ν 4 j = μ 4 j ∧ ν 5 j = μ 5 j)
theorem FrD_tr {μ ν ν1 : Mem} (h : FrD μ ν) (g : FrD ν ν1) : FrD μ ν1 := ⟨fun c hc => by rw [g.1 c hc, h.1 c hc], fun j hj => by rw [g.2.1 j hj, h.2.1 j hj], fun j hj => by rw [g.2.2.1 j hj, h.2.2.1 j hj], fun j hj => ⟨by rw [(g.2.2.2.1 j hj).1, (h.2.2.2.1 j hj).1], by rw [(g.2.2.2.1 j hj).2, (h.2.2.2.1 j hj).2]⟩, fun j hj => ⟨by rw [(g.2.2.2.2 j hj).1, (h.2.2.2.2 j hj).1], by rw [(g.2.2.2.2 j hj).2, (h.2.2.2.2 j hj).2]⟩⟩
theorem FrD_L {μ ν : Mem} (h : FrL μ ν) : FrD μ ν := ⟨fun c hc => h.1 c (by omega), fun j hj => h.2 j (by omega), fun j _ => by rw [h.1 2 (by decide)], fun j _ => ⟨by rw [h.1 3 (by decide)], by rw [h.1 6 (by decide)]⟩, fun j _ => ⟨by rw [h.1 4 (by decide)], by rw [h.1 5 (by decide)]⟩⟩
/-- the drafts beside each other -/
def Dr (σ μ : Mem) : Prop := (μ 0 18 = σ 2 0 ∧ μ 0 19 = σ 2 1 ∧ μ 0 20 = σ 2 2) ∧ ((σ 1 9 = 0 ∧ μ 0 21 = -9) ∨ (σ 1 9 = 1 ∧ μ 0 21 = σ 2 3 ∧ 0 ≤ σ 2 3 ∧ σ 2 3 ≤ 9)) ∧ (∀ s : Int, 0 ≤ s → s < σ 2 0 → μ 2 (4 + s) = σ 3 s ∧ μ 3 (8 + 2 * s) = σ 8 s ∧ μ 3 (9 + 2 * s) = σ 9 s) ∧ (∀ l s : Int, 0 ≤ l → l < σ 2 1 → 0 ≤ s → s < σ 2 0 → μ 4 (16 + 4 * l + s) = σ 7 (l * 4 + s) ∧ μ 5 (16 + 4 * l + s) = σ 4 (l * 4 + s) + 3) ∧ (∀ p : Int, 0 ≤ p → p < σ 2 2 → μ 6 (8 + p) = σ 5 p)

theorem FrD_up {μ ν : Mem} (h : FrD μ ν) (c : Nat) (j x : Int) (hc : (c = 0 ∧ ((4 ≤ j ∧ j ≤ 8) ∨ (18 ≤ j ∧ j ≤ 21))) ∨ (c = 2 ∧ 4 ≤ j) ∨ ((c = 3 ∨ c = 6) ∧ 8 ≤ j) ∨ ((c = 4 ∨ c = 5) ∧ 16 ≤ j)) : FrD μ (up ν c j x) := by
  obtain ⟨h1, h2, h3, h4, h5⟩ := h
  refine ⟨fun d hd => ?_, fun i hi => ?_, fun i hi => ?_, fun i hi => ⟨?_, ?_⟩, fun i hi => ⟨?_, ?_⟩⟩
  · rw [up_cell _ _ _ (by omega)]; exact h1 d hd
  · rw [up_ne _ (fun w => by omega)]; exact h2 i hi
  · rw [up_ne _ (fun w => by omega)]; exact h3 i hi
  · rw [up_ne _ (fun w => by omega)]; exact (h4 i hi).1
  · rw [up_ne _ (fun w => by omega)]; exact (h4 i hi).2
  · rw [up_ne _ (fun w => by omega)]; exact (h5 i hi).1
  · rw [up_ne _ (fun w => by omega)]; exact (h5 i hi).2
theorem FrD_0 (μ : Mem) : FrD μ μ := ⟨fun _ _ => rfl, fun _ _ => rfl, fun _ _ => rfl, fun _ _ => ⟨rfl, rfl⟩, fun _ _ => ⟨rfl, rfl⟩⟩
/-- what the text tells of a memory depends on two cells -/
theorem AtJ_w {j : Nat} {ν : Mem} (h : AtJ j ν) (c : Nat) (i x : Int) (hc : (c ≠ 0 ∧ c ≠ 1) ∨ (c = 0 ∧ (8 ≤ i))) : AtJ j (up ν c i x) := by
  unfold AtJ AtT at h ⊢
  rw [up_cell _ _ _ (show (1 : Nat) ≠ c by omega), up_ne _ (j' := 3) (fun w => by omega), up_ne _ (j' := 4) (fun w => by omega), up_ne _ (j' := 5) (fun w => by omega), up_ne _ (j' := 6) (fun w => by omega), up_ne _ (j' := 7) (fun w => by omega)]
  exact h
theorem MT_w {ν : Mem} (h : MT ν) (c : Nat) (i x : Int) (hc : (c ≠ 0 ∧ c ≠ 1) ∨ (c = 0 ∧ (4 ≤ i))) : MT (up ν c i x) := by
  unfold MT at h ⊢
  rw [up_cell _ _ _ (show (1 : Nat) ≠ c by omega), up_ne _ (j' := 3) (fun w => by omega)]
  exact h
theorem MT_D {μ ν : Mem} (h : MT μ) (g : FrD μ ν) : MT ν := by
  unfold MT
  rw [g.1 1 (Or.inl rfl), g.2.1 3 (by omega)]
  exact h
theorem Tk_D {m : Nat} {μ ν σ : Mem} (h : Tk m (μ 1) (μ 0 3) σ) (g : FrD μ ν) : Tk m (ν 1) (ν 0 3) σ := by
  rw [g.1 1 (Or.inl rfl), g.2.1 3 (by omega)]
  exact h
theorem Tk_s {m : Nat} {f : Int → Int} {n : Int} {σ τ : Mem} (h : Tk m f n σ) (e11 : τ 11 = σ 11) (e12 : τ 12 = σ 12) : Tk m f n τ := by
  unfold Tk
  rw [e11, e12]
  exact h


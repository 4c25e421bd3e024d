/-! what a told land is, whatever the text (pure, over the tokens) -/
def GD (σ : Mem) : Prop := ((0 ≤ σ 2 3 ∧ σ 2 3 ≤ 9) ∧ (σ 1 9 = 0 → σ 2 3 = 2)) ∧ (∀ l s : Int, 0 ≤ l → l < σ 2 1 → 0 ≤ s → s < σ 2 0 → (-3 ≤ σ 4 (l * 4 + s) ∧ σ 4 (l * 4 + s) ≤ 3) ∧ 0 ≤ σ 7 (l * 4 + s) ∧ σ 7 (l * 4 + s) ≤ σ 3 s) ∧ (∀ p : Int, 0 ≤ p → p < σ 2 2 → 0 ≤ σ 5 p ∧ σ 5 p ≤ 60)
theorem GD_c {σ τ : Mem} (h : GD σ) (e1 : τ 1 9 = σ 1 9) (e2 : τ 2 = σ 2) (e3 : τ 3 = σ 3) (e4 : τ 4 = σ 4) (e5 : τ 5 = σ 5) (e7 : τ 7 = σ 7) : GD τ := by
  unfold GD
  rw [e1, e2, e3, e4, e5, e7]
  exact h
theorem GD_w {σ : Mem} (h : GD σ) (c : Nat) (j x : Int) (hc : c ≠ 2 ∧ c ≠ 3 ∧ c ≠ 4 ∧ c ≠ 5 ∧ c ≠ 7 ∧ (c = 1 → j ≠ 9)) : GD (up σ c j x) := GD_c h (up_ne _ (fun w => hc.2.2.2.2.2 w.1.symm w.2.symm)) (up_cell _ _ _ (Ne.symm hc.1)) (up_cell _ _ _ (Ne.symm hc.2.1)) (up_cell _ _ _ (Ne.symm hc.2.2.1)) (up_cell _ _ _ (Ne.symm hc.2.2.2.1)) (up_cell _ _ _ (Ne.symm hc.2.2.2.2.1))
theorem numS_inr {m : Nat} {lo hi : Int} {σ τ : Mem} {k : Int → Mem → Rs} (h : numS lo hi σ k = .inr τ) (h0 : 0 ≤ lo) (hP : PI m σ) : ∃ v : Int, (lo ≤ v ∧ v ≤ hi) ∧ k v (up σ 1 6 (σ 1 6 + 1)) = .inr τ ∧ PI m (up σ 1 6 (σ 1 6 + 1)) := by
  unfold numS at h
  split at h
  · rename_i hv
    have hne : σ 1 6 ≠ m := fun w => by rw [w, hP.1.2.1] at hv; omega
    have h6 := hP.2.1
    exact ⟨_, hv, h, PI_1 hP _ _ (fun _ => by omega) (fun w => by omega)⟩
  · cases h
theorem lifeS_gd {m : Nat} : ∀ (n : Nat) (s : Int) (σ τ : Mem), s + n = σ 2 0 → 0 ≤ s → PI m σ → GD σ → (∀ i : Int, 0 ≤ i → i < s → (-3 ≤ σ 4 (σ 2 1 * 4 + i) ∧ σ 4 (σ 2 1 * 4 + i) ≤ 3) ∧ 0 ≤ σ 7 (σ 2 1 * 4 + i) ∧ σ 7 (σ 2 1 * 4 + i) ≤ σ 3 i) → σ 2 1 < 4 → lifeS n s σ = .inr τ → PI m τ ∧ GD τ ∧ σ 1 6 ≤ τ 1 6
  | 0, s, σ, τ, h0, h1, hP, hG, hrow, h4, h => by
    unfold lifeS at h
    injection h with h
    subst h
    have p1 := hP.2.2.2.1
    refine ⟨PI_2 hP _ _ (fun w => by omega) (fun _ => by omega) (fun w => by omega), ?_, ?_⟩
    · obtain ⟨g1, g2, g3⟩ := hG
      refine ⟨by simpa [up, incr] using g1, fun l i a b c d => ?_, fun p a b => by simpa [up, incr] using g3 p a (by simpa [up, incr] using b)⟩
      have b2 : l < σ 2 1 + 1 := by simpa [up, incr] using b
      have d2 : i < σ 2 0 := by simpa [up, incr] using d
      by_cases hl : l = σ 2 1
      · simpa [up, incr, hl] using hrow i c (by omega)
      · simpa [up, incr] using g2 l i a (by omega) c d2
    · simp [up, incr]
  | n + 1, s, σ, τ, h0, h1, hP, hG, hrow, h4, h => by
    unfold lifeS at h
    obtain ⟨v, hv, h, hP1⟩ := numS_inr h (by decide) hP
    have hP2 := PI_w hP1 7 (σ 2 1 * 4 + s) v (by decide)
    obtain ⟨w, hw, h, hP3⟩ := numS_inr h (by decide) hP2
    obtain ⟨ρ, hρ⟩ : ∃ ρ, ρ = up (up (up (up σ 1 6 (σ 1 6 + 1)) 7 (σ 2 1 * 4 + s) v) 1 6 (up (up σ 1 6 (σ 1 6 + 1)) 7 (σ 2 1 * 4 + s) v 1 6 + 1)) 4 (σ 2 1 * 4 + s) (w - 3) := ⟨_, rfl⟩
    have r2 : ρ 2 = σ 2 := by rw [hρ]; (repeat rw [up_cell _ _ _ (by decide)])
    have r3 : ρ 3 = σ 3 := by rw [hρ]; (repeat rw [up_cell _ _ _ (by decide)])
    have r5 : ρ 5 = σ 5 := by rw [hρ]; (repeat rw [up_cell _ _ _ (by decide)])
    have r4 : ∀ z : Int, ρ 4 z = if z = σ 2 1 * 4 + s then w - 3 else σ 4 z := fun z => by rw [hρ]; simp [up]
    have r7 : ∀ z : Int, ρ 7 z = if z = σ 2 1 * 4 + s then v else σ 7 z := fun z => by rw [hρ]; simp [up]
    have r6 : ρ 1 6 = σ 1 6 + 1 + 1 := by rw [hρ]; simp [up]
    have r9 : ρ 1 9 = σ 1 9 := by rw [hρ]; simp [up]
    have hPρ : PI m ρ := by rw [hρ]; exact PI_w hP3 4 _ _ (by decide)
    have h : lifeS n (s + 1) ρ = .inr τ := by rw [hρ]; exact h
    obtain ⟨g1, g2, g3⟩ := hG
    have hGρ : GD ρ := by
      refine ⟨by rw [r2, r9]; exact g1, fun l i a b c d => ?_, fun p a b => ?_⟩
      · rw [r2] at b d
        have p0 := hP.2.2.1
        rw [r4, r7, r3, if_neg (by omega), if_neg (by omega)]
        exact g2 l i a b c d
      · rw [r2] at b
        rw [r5]
        exact g3 p a b
    have k := lifeS_gd n (s + 1) ρ τ (by rw [r2]; omega) (by omega) hPρ hGρ (fun i a b => by
      rw [r2, r4, r7, r3]
      by_cases hi : i = s
      · rw [hi, if_pos rfl, if_pos rfl]
        omega
      · rw [if_neg (by omega), if_neg (by omega)]
        exact hrow i a (by omega)) (by rw [r2]; exact h4) h
    exact ⟨k.1, k.2.1, by have := k.2.2; omega⟩
theorem mayS_1 {σ : Mem} {c : Int} (h : mayS σ c = 1) : (c = 115 ∧ σ 2 1 = 0 ∧ σ 2 0 < 4) ∨ (c = 108 ∧ σ 2 1 < 4) ∨ (c = 100 ∧ σ 1 9 = 0) ∨ (c = 112 ∧ σ 2 2 < 8) := by
  unfold mayS at h
  (repeat' split at h) <;> first | omega | (exfalso; omega)
theorem bodyS_gd {m : Nat} {σ τ : Mem} {c : Int} (hP : PI m σ) (hG : GD σ) (hc : mayS σ c = 1) (h : bodyS σ c = .inr τ) : PI m τ ∧ GD τ ∧ σ 1 6 ≤ τ 1 6 := by
  rcases mayS_1 hc with ⟨rfl, c1, c2⟩ | ⟨rfl, c1⟩ | ⟨rfl, c1⟩ | ⟨rfl, c1⟩
  · rw [bodyS_s] at h
    unfold scaleS at h
    obtain ⟨v, hv, h, hP1⟩ := numS_inr h (by decide) hP
    obtain ⟨v2, hv2, h, hP2⟩ := numS_inr h (by decide) (PI_w hP1 8 (σ 2 0) v (by decide))
    have e2 : up (up (up σ 1 6 (σ 1 6 + 1)) 8 (σ 2 0) v) 1 6 (up (up σ 1 6 (σ 1 6 + 1)) 8 (σ 2 0) v 1 6 + 1) 2 = σ 2 := by (repeat rw [up_cell _ _ _ (by decide)])
    have hP3 := PI_rg hP2 v2
    rw [e2] at hP3
    obtain ⟨v3, hv3, h, hP4⟩ := numS_inr h (by decide) hP3
    injection h with h
    subst h
    have p0 := hP.2.2.1
    refine ⟨PI_2 (PI_w hP4 9 _ _ (by decide)) _ _ (fun _ => ⟨rfl, by simp [up]; omega, by simp [up]; omega⟩) (fun w => by omega) (fun w => by omega), ?_, ?_⟩
    · obtain ⟨g1, g2, g3⟩ := hG
      refine ⟨by simpa [up, incr] using g1, fun l i a b c d => ?_, fun p a b => by simpa [up, incr] using g3 p a (by simpa [up, incr] using b)⟩
      have b2 : l < σ 2 1 := by simpa [up, incr] using b
      omega
    · simp [up, incr]
      omega
  · rw [bodyS_l] at h
    have p0 := hP.2.2.1
    exact lifeS_gd _ 0 σ τ (by omega) (Int.le_refl _) hP hG (fun i a b => by omega) c1 h
  · rw [bodyS_d] at h
    obtain ⟨v, hv, h, hP1⟩ := numS_inr h (by decide) (PI_1 hP 9 1 (fun w => by omega) (fun _ => Or.inr rfl))
    injection h with h
    subst h
    refine ⟨PI_2 hP1 _ _ (fun w => by omega) (fun w => by omega) (fun w => by omega), ?_, ?_⟩
    · obtain ⟨g1, g2, g3⟩ := hG
      refine ⟨⟨by simp [up]; omega, by simp [up]⟩, fun l i a b c d => by simpa [up] using g2 l i a (by simpa [up] using b) c (by simpa [up] using d), fun p a b => by simpa [up] using g3 p a (by simpa [up] using b)⟩
    · simp [up]
      omega
  · rw [bodyS_p] at h
    obtain ⟨v, hv, h, hP1⟩ := numS_inr h (by decide) hP
    injection h with h
    subst h
    have p2 := hP.2.2.2.2.1
    refine ⟨PI_2 (PI_w hP1 5 _ _ (by decide)) _ _ (fun w => by omega) (fun w => by omega) (fun _ => by simp [up]; omega), ?_, ?_⟩
    · obtain ⟨g1, g2, g3⟩ := hG
      refine ⟨by simpa [up, incr] using g1, fun l i a b c d => by simpa [up, incr] using g2 l i a (by simpa [up, incr] using b) c (by simpa [up, incr] using d), fun p a b => ?_⟩
      have b2 : p < σ 2 2 + 1 := by simpa [up, incr] using b
      by_cases hp : p = σ 2 2
      · simp [up, incr, hp]
        omega
      · simpa [up, incr, hp] using g3 p a (by omega)
    · simp [up, incr]
      omega
theorem mayS_i (σ : Mem) (x c : Int) : mayS (up σ 1 6 x) c = mayS σ c := by
  unfold mayS
  rw [up_cell _ _ _ (show (2 : Nat) ≠ 1 by decide), up_ne _ (j' := 9) (fun w => by omega)]
theorem semS_gd {m : Nat} {σ τ : Mem} (hP : PI m σ) (hG : GD σ) (h : semS σ = .inr τ) : PI m τ ∧ GD τ ∧ σ 1 6 + 1 = τ 1 6 := by
  unfold semS at h
  split at h
  · rename_i hv
    injection h with h
    subst h
    have hne : σ 1 6 ≠ m := fun w => by rw [w, hP.1.2.1] at hv; omega
    have h6 := hP.2.1
    exact ⟨PI_1 (PI_1 hP _ _ (fun _ => by omega) (fun w => by omega)) _ _ (fun w => by omega) (fun w => by omega), GD_w (GD_w hG 1 _ _ (by simp)) 1 _ _ (by simp), by simp [up, incr]⟩
  · cases h
theorem itemS_gd {m : Nat} {σ τ : Mem} (hP : PI m σ) (hG : GD σ) (h : itemS σ = .inr τ) : PI m τ ∧ GD τ ∧ σ 1 6 < τ 1 6 := by
  unfold itemS at h
  split at h
  · rename_i hc
    have hne : σ 1 6 ≠ m := fun w => by
      rw [w, hP.1.2.1] at hc
      rcases mayS_1 hc with q | q | q | q <;> omega
    have h6 := hP.2.1
    have hP1 : PI m (incr σ 1 6) := PI_1 hP _ _ (fun _ => by omega) (fun w => by omega)
    have hG1 : GD (incr σ 1 6) := GD_w hG 1 _ _ (by simp)
    cases hb : bodyS (incr σ 1 6) (-σ 11 (σ 1 6)) with
    | inl f => rw [hb] at h; cases h
    | inr ρ =>
      rw [hb] at h
      have k := bodyS_gd hP1 hG1 (by unfold incr; rw [mayS_i]; exact hc) hb
      have k2 := semS_gd k.1 k.2.1 h
      have e : incr σ 1 6 1 6 = σ 1 6 + 1 := by simp [up, incr]
      exact ⟨k2.1, k2.2.1, by have := k.2.2; have := k2.2.2; omega⟩
  · cases h
theorem loopS_gd {m : Nat} : ∀ (k : Nat) (σ τ : Mem), PI m σ → GD σ → loopS k σ = .inr τ → PI m τ ∧ GD τ
  | 0, σ, τ, hP, hG, h => by
    unfold loopS at h
    injection h with h
    subst h
    exact ⟨hP, hG⟩
  | k + 1, σ, τ, hP, hG, h => by
    unfold loopS at h
    split at h
    · injection h with h
      subst h
      exact ⟨hP, hG⟩
    · cases hi : itemS σ with
      | inl f => rw [hi] at h; cases h
      | inr ρ =>
        rw [hi] at h
        have q := itemS_gd hP hG hi
        exact loopS_gd k ρ τ q.1 q.2.1 h
theorem GD_start (σ : Mem) : GD (startS σ) := by
  refine ⟨by simp [startS, empS, up], fun l s a b c d => ?_, fun p a b => ?_⟩
  · have b2 : l < 0 := by simpa [startS, empS, up] using b
    omega
  · have b2 : p < 0 := by simpa [startS, empS, up] using b
    omega

/-- reading on well: the reference at the token of that number, the class's memory beside it -/
def Rd (m j : Nat) (σ μ0 μ : Mem) : Prop := FrD μ0 μ ∧ μ 0 8 = μ0 0 8 ∧ AtJ j μ ∧ j ≤ m ∧ σ 1 6 = j ∧ Tk m (μ0 1) (μ0 0 3) σ
theorem Rd_J {m j : Nat} {σ μ0 μ : Mem} (h : Rd m j σ μ0 μ) : TkJ m j μ σ := Tk_J (Tk_D h.2.2.2.2.2 h.1) h.2.2.1 h.2.2.2.1
theorem Rd_take {m j : Nat} {σ τ μ0 μ ν : Mem} (h : Rd m j σ μ0 μ) (hne : ¬ μ 0 5 = 0) (hF : FrL μ ν) (hA : AtJ (j + 1) ν) (e6 : τ 1 6 = σ 1 6 + 1) (e11 : τ 11 = σ 11) (e12 : τ 12 = σ 12) : Rd m (j + 1) τ μ0 ν := by
  have hj := (Rd_J h).2.1
  obtain ⟨h1, h2, h3, h4, h5, h6⟩ := h
  exact ⟨FrD_tr h1 (FrD_L hF), by rw [hF.2 8 (by omega), h2], hA, by omega, by rw [e6, h5]; omega, Tk_s h6 e11 e12⟩
theorem Rd_store {m j : Nat} {σ τ μ0 μ : Mem} (h : Rd m j σ μ0 μ) (c : Nat) (i x : Int) (hc : (c = 0 ∧ 18 ≤ i ∧ i ≤ 21) ∨ (c = 2 ∧ 4 ≤ i) ∨ ((c = 3 ∨ c = 6) ∧ 8 ≤ i) ∨ ((c = 4 ∨ c = 5) ∧ 16 ≤ i)) (e6 : τ 1 6 = σ 1 6) (e11 : τ 11 = σ 11) (e12 : τ 12 = σ 12) : Rd m j τ μ0 (up μ c i x) := by
  obtain ⟨h1, h2, h3, h4, h5, h6⟩ := h
  exact ⟨FrD_up h1 c i x (by omega), by rw [up_ne _ (fun w => by omega)]; exact h2, AtJ_w h3 c i x (by omega), h4, by rw [e6]; exact h5, Tk_s h6 e11 e12⟩

set_option maxRecDepth 100000 in
set_option maxHeartbeats 4000000 in
theorem X7_readsItem_p (μ : Mem) (m j : Nat) (σ μ0 : Mem) (hS : ∀ j : Nat, j ≤ m → 0 ≤ σ 12 j) (hR : Rd m j σ μ0 μ) (h8 : μ 0 8 < 0) (hT : MT μ) (hD : Dr σ μ) (hn : 0 ≤ σ 2 2 ∧ σ 2 2 < 8) : CT TM md_X7_readsItem [aR 0, aI 112] μ (fun rv μ1 => rv = none ∧ ((∃ (σ2 : Mem) (j2 : Nat), numS 0 60 σ (fun a σ2 => .inr (incr (up σ2 5 (σ 2 2) a) 2 2)) = .inr σ2 ∧ Rd m j2 σ2 μ0 μ1 ∧ Dr σ2 μ1) ∨ (∃ f : Int, numS 0 60 σ (fun a σ2 => .inr (incr (up σ2 5 (σ 2 2) a) 2 2)) = .inl f ∧ FrD μ0 μ1 ∧ μ1 0 8 = f ∧ 0 ≤ f))) := by
  refine CT.of (Nat.le_of_ble_eq_true rfl) (by decide) rfl (Nat.le_of_ble_eq_true rfl) (fun X hG hX => ?_)
  have hG : G TM X RX7 cX7_readsItem 3 4 87 none := hG
  show J TM X 3 0 [some (aR 0), some (aI 112), none] [] μ
  have hR2 := hR
  obtain ⟨r1, r2, r3, r4, r5, r6⟩ := hR2
  obtain ⟨q1, q2, q3, q4, q5, q6, q7, q8⟩ := Rd_J hR
  have hD2 := hD
  obtain ⟨⟨d1, d2, d3⟩, d4, d5, d6, d7⟩ := hD2
  refine J.iload_n hG dX7_readsItem_0 rfl rfl ?_
  refine J.bipush hG dX7_readsItem_1 (by decide) (by decide) ?_
  refine J.icmp_ne hG 87 dX7_readsItem_3 rfl (fun h3 => ?_) (fun h3 => absurd h3 (by omega))
  refine J.iload_n hG dX7_readsItem_87 rfl rfl ?_
  refine J.bipush hG dX7_readsItem_88 (by decide) (by decide) ?_
  refine J.icmp_ne hG 174 dX7_readsItem_90 rfl (fun h90 => ?_) (fun h90 => absurd h90 (by omega))
  refine J.iload_n hG dX7_readsItem_174 rfl rfl ?_
  refine J.bipush hG dX7_readsItem_175 (by decide) (by decide) ?_
  refine J.icmp_ne hG 194 dX7_readsItem_177 rfl (fun h177 => ?_) (fun h177 => absurd h177 (by omega))
  refine J.aload_n hG dX7_readsItem_194 rfl rfl ?_
  refine J.getR hG ciX7 rfl 13 13 rfl (Nat.le_of_ble_eq_true rfl) rfl fl_X7_25 dX7_readsItem_195 ?_
  refine J.bipush hG dX7_readsItem_198 (by decide) (by decide) ?_
  refine J.aload_n hG dX7_readsItem_200 rfl rfl ?_
  refine J.getI hG ciX7 rfl 20 20 rfl (Nat.le_of_ble_eq_true rfl) rfl fl_X7_121 dX7_readsItem_201 ?_
  refine J.iadd hG dX7_readsItem_204 (fun _ _ => (by omega)) ?_
  refine J.aload_n hG dX7_readsItem_205 rfl rfl ?_
  refine J.iconst hG dX7_readsItem_206 (by decide) ?_
  refine J.bipush hG dX7_readsItem_207 (by decide) (by decide) ?_
  refine J.callV hG (X7_number _ 0 60 h8 hT j r3) ok_X7_number ml_X7_127 rfl rfl rfl rfl (Nat.le_of_ble_eq_true rfl) ⟨Nat.le_of_ble_eq_true rfl, Nat.le_of_ble_eq_true rfl⟩ dX7_readsItem_209 rfl (fun r1 ν1 hp1 => ?_)
  rcases hp1 with ⟨ga, rfl, hF, hA⟩ | ⟨gb, rfl, rfl⟩
  · have f18 := hF.2 18 (by omega)
    have f19 := hF.2 19 (by omega)
    have f20 := hF.2 20 (by omega)
    have f21 := hF.2 21 (by omega)
    have c2 := hF.1 2 (by decide)
    have c3 := hF.1 3 (by decide)
    have c4 := hF.1 4 (by decide)
    have c5 := hF.1 5 (by decide)
    have c6 := hF.1 6 (by decide)
    have hv := q5 ga.1
    refine J.iast hG rfl (by omega) (by omega) dX7_readsItem_212 ?_
    refine J.aload_n hG dX7_readsItem_213 rfl rfl ?_
    refine J.dup hG dX7_readsItem_214 (fun _ => rfl) ?_
    refine J.getI hG ciX7 rfl 20 20 rfl (Nat.le_of_ble_eq_true rfl) rfl fl_X7_121 dX7_readsItem_215 ?_
    refine J.iconst hG dX7_readsItem_218 (by decide) ?_
    refine J.iadd hG dX7_readsItem_219 (fun _ _ => (by first | (rw [up_cell _ _ _ (by decide)]; omega))) ?_
    refine J.putI hG ciX7 rfl 20 20 rfl (Nat.le_of_ble_eq_true rfl) rfl fl_X7_121 rfl rfl dX7_readsItem_220 ?_
    refine J.vret hG dX7_readsItem_223 ?_
    rw [hX]; dsimp only
    refine ⟨rfl, Or.inl ⟨_, j + 1, numS_ok (by rw [r5]; omega), Rd_store (Rd_store (Rd_take hR (by omega) hF hA (by simp [incr, up]) (by unfold incr; (repeat rw [up_cell _ _ _ (by decide)])) (by unfold incr; (repeat rw [up_cell _ _ _ (by decide)]))) 6 _ _ (by omega) rfl rfl rfl) 0 20 _ (by omega) rfl rfl rfl, ⟨by simp [up, incr, f18, d1], by simp [up, incr, f19, d2], by simp [up, incr, f20, d3]⟩, by simpa [up, incr, f21] using d4, fun s a b => ?_, fun l s a b c d => ?_, fun p a b => ?_⟩⟩
    · simpa [up, incr, c2, c3] using d5 s a (by simpa [up, incr] using b)
    · simpa [up, incr, c4, c5] using d6 l s a (by simpa [up, incr] using b) c (by simpa [up, incr] using d)
    · have b2 : p < σ 2 2 + 1 := by simpa [up, incr] using b
      by_cases hp : p = σ 2 2
      · simp [up, incr, hp, d3, hv, r5]
      · simpa [up, incr, c6, hp, d3] using d7 p a (by omega)
  · have f20 : up μ 0 8 (μ 0 6) 0 20 = μ 0 20 := up_ne _ (by decide)
    refine J.iast hG rfl (by omega) (by omega) dX7_readsItem_212 ?_
    refine J.aload_n hG dX7_readsItem_213 rfl rfl ?_
    refine J.dup hG dX7_readsItem_214 (fun _ => rfl) ?_
    refine J.getI hG ciX7 rfl 20 20 rfl (Nat.le_of_ble_eq_true rfl) rfl fl_X7_121 dX7_readsItem_215 ?_
    refine J.iconst hG dX7_readsItem_218 (by decide) ?_
    refine J.iadd hG dX7_readsItem_219 (fun _ _ => (by first | (rw [up_cell _ _ _ (by decide)]; omega))) ?_
    refine J.putI hG ciX7 rfl 20 20 rfl (Nat.le_of_ble_eq_true rfl) rfl fl_X7_121 rfl rfl dX7_readsItem_220 ?_
    refine J.vret hG dX7_readsItem_223 ?_
    rw [hX]; dsimp only
    refine ⟨rfl, Or.inr ⟨_, numS_no (by rw [r5]; omega), FrD_up (FrD_up (FrD_up r1 0 8 _ (by omega)) 6 _ _ (by omega)) 0 20 _ (by omega), ?_, ?_⟩⟩
    · simp [up, q1, r5]
    · rw [r5]; exact hS j r4

set_option maxRecDepth 100000 in
set_option maxHeartbeats 4000000 in
theorem X7_readsItem_d (μ : Mem) (m j : Nat) (σ μ0 : Mem) (hS : ∀ j : Nat, j ≤ m → 0 ≤ σ 12 j) (hR : Rd m j σ μ0 μ) (h8 : μ 0 8 < 0) (hT : MT μ) (hD : Dr σ μ) (hn : σ 1 9 = 0) : CT TM md_X7_readsItem [aR 0, aI 100] μ (fun rv μ1 => rv = none ∧ ((∃ (σ2 : Mem) (j2 : Nat), numS 0 9 (up σ 1 9 1) (fun a σ2 => .inr (up σ2 2 3 a)) = .inr σ2 ∧ Rd m j2 σ2 μ0 μ1 ∧ Dr σ2 μ1) ∨ (∃ f : Int, numS 0 9 (up σ 1 9 1) (fun a σ2 => .inr (up σ2 2 3 a)) = .inl f ∧ FrD μ0 μ1 ∧ μ1 0 8 = f ∧ 0 ≤ f))) := by
  refine CT.of (Nat.le_of_ble_eq_true rfl) (by decide) rfl (Nat.le_of_ble_eq_true rfl) (fun X hG hX => ?_)
  have hG : G TM X RX7 cX7_readsItem 3 4 87 none := hG
  show J TM X 3 0 [some (aR 0), some (aI 100), none] [] μ
  have hR2 := hR
  obtain ⟨r1, r2, r3, r4, r5, r6⟩ := hR2
  obtain ⟨q1, q2, q3, q4, q5, q6, q7, q8⟩ := Rd_J hR
  have hD2 := hD
  obtain ⟨⟨d1, d2, d3⟩, d4, d5, d6, d7⟩ := hD2
  refine J.iload_n hG dX7_readsItem_0 rfl rfl ?_
  refine J.bipush hG dX7_readsItem_1 (by decide) (by decide) ?_
  refine J.icmp_ne hG 87 dX7_readsItem_3 rfl (fun h3 => ?_) (fun h3 => absurd h3 (by omega))
  refine J.iload_n hG dX7_readsItem_87 rfl rfl ?_
  refine J.bipush hG dX7_readsItem_88 (by decide) (by decide) ?_
  refine J.icmp_ne hG 174 dX7_readsItem_90 rfl (fun h90 => ?_) (fun h90 => absurd h90 (by omega))
  refine J.iload_n hG dX7_readsItem_174 rfl rfl ?_
  refine J.bipush hG dX7_readsItem_175 (by decide) (by decide) ?_
  refine J.icmp_ne hG 194 dX7_readsItem_177 rfl (fun h177 => absurd h177 (by omega)) (fun h177 => ?_)
  refine J.aload_n hG dX7_readsItem_180 rfl rfl ?_
  refine J.aload_n hG dX7_readsItem_181 rfl rfl ?_
  refine J.iconst hG dX7_readsItem_182 (by decide) ?_
  refine J.bipush hG dX7_readsItem_183 (by decide) (by decide) ?_
  refine J.callV hG (X7_number _ 0 9 h8 hT j r3) ok_X7_number ml_X7_127 rfl rfl rfl rfl (Nat.le_of_ble_eq_true rfl) ⟨Nat.le_of_ble_eq_true rfl, Nat.le_of_ble_eq_true rfl⟩ dX7_readsItem_185 rfl (fun r1 ν1 hp1 => ?_)
  rcases hp1 with ⟨ga, rfl, hF, hA⟩ | ⟨gb, rfl, rfl⟩
  · have f18 := hF.2 18 (by omega)
    have f19 := hF.2 19 (by omega)
    have f20 := hF.2 20 (by omega)
    have f21 := hF.2 21 (by omega)
    have c2 := hF.1 2 (by decide)
    have c3 := hF.1 3 (by decide)
    have c4 := hF.1 4 (by decide)
    have c5 := hF.1 5 (by decide)
    have c6 := hF.1 6 (by decide)
    have hv := q5 ga.1
    refine J.putI hG ciX7 rfl 21 21 rfl (Nat.le_of_ble_eq_true rfl) rfl fl_X7_124 rfl rfl dX7_readsItem_188 ?_
    refine J.goto hG 223 dX7_readsItem_191 rfl ?_
    refine J.vret hG dX7_readsItem_223 ?_
    rw [hX]; dsimp only
    have es : up σ 1 9 1 11 (up σ 1 9 1 1 6) = σ 11 j := by rw [u11_1, up_ne _ (by decide), r5]
    refine ⟨rfl, Or.inl ⟨_, j + 1, numS_ok (σ := up σ 1 9 1) (by rw [es]; omega), Rd_store (Rd_take hR (by omega) hF hA (by simp [up]) (by (repeat rw [up_cell _ _ _ (by decide)])) (by (repeat rw [up_cell _ _ _ (by decide)]))) 0 21 _ (by omega) rfl rfl rfl, ⟨by simp [up, f18, d1], by simp [up, f19, d2], by simp [up, f20, d3]⟩, Or.inr ⟨by simp [up], by rw [es]; simp [up, hv], by rw [es]; simp [up]; omega⟩, fun s a b => ?_, fun l s a b c d => ?_, fun p a b => ?_⟩⟩
    · simpa [up, c2, c3] using d5 s a (by simpa [up] using b)
    · simpa [up, c4, c5] using d6 l s a (by simpa [up] using b) c (by simpa [up] using d)
    · simpa [up, c6] using d7 p a (by simpa [up] using b)
  · refine J.putI hG ciX7 rfl 21 21 rfl (Nat.le_of_ble_eq_true rfl) rfl fl_X7_124 rfl rfl dX7_readsItem_188 ?_
    refine J.goto hG 223 dX7_readsItem_191 rfl ?_
    refine J.vret hG dX7_readsItem_223 ?_
    rw [hX]; dsimp only
    have es : up σ 1 9 1 11 (up σ 1 9 1 1 6) = σ 11 j := by rw [u11_1, up_ne _ (by decide), r5]
    refine ⟨rfl, Or.inr ⟨_, numS_no (σ := up σ 1 9 1) (by rw [es]; omega), FrD_up (FrD_up r1 0 8 _ (by omega)) 0 21 _ (by omega), ?_, ?_⟩⟩
    · simp [up, q1, r5]
    · rw [u12_1, up_ne _ (by decide), r5]; exact hS j r4


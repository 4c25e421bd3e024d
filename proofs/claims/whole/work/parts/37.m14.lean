/-- reading on well: the reference at the token of that number, the class's memory beside it -/
def Rd (m j : Nat) (σ μ0 μ : Mem) : Prop := FrD μ0 μ ∧ μ 0 8 = μ0 0 8 ∧ AtJ j μ ∧ j ≤ m ∧ σ 1 6 = j ∧ Tk m (μ0 1) (μ0 0 3) σ
theorem Rd_J {m j : Nat} {σ μ0 μ : Mem} (h : Rd m j σ μ0 μ) : TkJ m j μ σ := Tk_J (Tk_D h.2.2.2.2.2 h.1) h.2.2.1 h.2.2.2.1
theorem Rd_take {m j : Nat} {σ τ μ0 μ ν : Mem} (h : Rd m j σ μ0 μ) (hne : ¬ μ 0 5 = 0) (hF : FrL μ ν) (hA : AtJ (j + 1) ν) (e6 : τ 1 6 = σ 1 6 + 1) (e11 : τ 11 = σ 11) (e12 : τ 12 = σ 12) : Rd m (j + 1) τ μ0 ν := by
  have hj := (Rd_J h).2.1
  obtain ⟨h1, h2, h3, h4, h5, h6⟩ := h
  exact ⟨FrD_tr h1 (FrD_L hF), by rw [hF.2 8 (by omega), h2], hA, by omega, by rw [e6, h5]; omega, Tk_s h6 e11 e12⟩
theorem Rd_store {m j : Nat} {σ τ μ0 μ : Mem} (h : Rd m j σ μ0 μ) (c : Nat) (i x : Int) (hc : (c = 0 ∧ 18 ≤ i ∧ i ≤ 21) ∨ (c = 2 ∧ 4 ≤ i) ∨ ((c = 3 ∨ c = 6) ∧ 8 ≤ i) ∨ ((c = 4 ∨ c = 5) ∧ 16 ≤ i)) (e6 : τ 1 6 = σ 1 6) (e11 : τ 11 = σ 11) (e12 : τ 12 = σ 12) : Rd m j τ μ0 (up μ c i x) := by
  obtain ⟨h1, h2, h3, h4, h5, h6⟩ := h
  exact ⟨FrD_up h1 c i x (by omega), by rw [up_ne _ (fun w => by omega)]; exact h2, AtJ_w h3 c i x (by omega), h4, by rw [e6]; exact h5, Tk_s h6 e11 e12⟩

set_option maxRecDepth 100000 in
set_option maxHeartbeats 4000000 in
theorem X7_readsItem_p (μ : Mem) (m j : Nat) (σ μ0 : Mem) (hS : ∀ j : Nat, j ≤ m → 0 ≤ σ 12 j) (hR : Rd m j σ μ0 μ) (h8 : μ 0 8 < 0) (hT : MT μ) (hD : Dr σ μ) (hn : 0 ≤ σ 2 2 ∧ σ 2 2 < 8) : CT TM md_X7_readsItem [aR 0, aI 112] μ (fun rv μ1 => rv = none ∧ ((∃ (σ2 : Mem) (j2 : Nat), numS 0 60 σ (fun a σ2 => .inr (incr (up σ2 5 (σ 2 2) a) 2 2)) = .inr σ2 ∧ Rd m j2 σ2 μ0 μ1 ∧ Dr σ2 μ1) ∨ (∃ f : Int, numS 0 60 σ (fun a σ2 => .inr (incr (up σ2 5 (σ 2 2) a) 2 2)) = .inl f ∧ FrD μ0 μ1 ∧ μ1 0 8 = f ∧ 0 ≤ f))) := by
  refine CT.of (Nat.le_of_ble_eq_true rfl) (by decide) rfl (Nat.le_of_ble_eq_true rfl) (fun X hG hX => ?_)
  have hG : G TM X RX7 cX7_readsItem 3 4 87 none := hG
  show J TM X 3 0 [some (aR 0), some (aI 112), none] [] μ
  have hR2 := hR
  obtain ⟨r1, r2, r3, r4, r5, r6⟩ := hR2
  obtain ⟨q1, q2, q3, q4, q5, q6, q7, q8⟩ := Rd_J hR
  have hD2 := hD
  obtain ⟨⟨d1, d2, d3⟩, d4, d5, d6, d7⟩ := hD2
  refine J.iload_n hG dX7_readsItem_0 rfl rfl ?_
  refine J.bipush hG dX7_readsItem_1 (by decide) (by decide) ?_
  refine J.icmp_ne hG 87 dX7_readsItem_3 rfl (fun h3 => ?_) (fun h3 => absurd h3 (by omega))
  refine J.iload_n hG dX7_readsItem_87 rfl rfl ?_
  refine J.bipush hG dX7_readsItem_88 (by decide) (by decide) ?_
  refine J.icmp_ne hG 174 dX7_readsItem_90 rfl (fun h90 => ?_) (fun h90 => absurd h90 (by omega))
  refine J.iload_n hG dX7_readsItem_174 rfl rfl ?_
  refine J.bipush hG dX7_readsItem_175 (by decide) (by decide) ?_
  refine J.icmp_ne hG 194 dX7_readsItem_177 rfl (fun h177 => ?_) (fun h177 => absurd h177 (by omega))
  refine J.aload_n hG dX7_readsItem_194 rfl rfl ?_
  refine J.getR hG ciX7 rfl 13 13 rfl (Nat.le_of_ble_eq_true rfl) rfl fl_X7_25 dX7_readsItem_195 ?_
  refine J.bipush hG dX7_readsItem_198 (by decide) (by decide) ?_
  refine J.aload_n hG dX7_readsItem_200 rfl rfl ?_
  refine J.getI hG ciX7 rfl 20 20 rfl (Nat.le_of_ble_eq_true rfl) rfl fl_X7_121 dX7_readsItem_201 ?_
  refine J.iadd hG dX7_readsItem_204 (fun _ _ => (by omega)) ?_
  refine J.aload_n hG dX7_readsItem_205 rfl rfl ?_
  refine J.iconst hG dX7_readsItem_206 (by decide) ?_
  refine J.bipush hG dX7_readsItem_207 (by decide) (by decide) ?_
  refine J.callV hG (X7_number _ 0 60 h8 hT j r3) ok_X7_number ml_X7_127 rfl rfl rfl rfl (Nat.le_of_ble_eq_true rfl) ⟨Nat.le_of_ble_eq_true rfl, Nat.le_of_ble_eq_true rfl⟩ dX7_readsItem_209 rfl (fun r1 ν1 hp1 => ?_)
  rcases hp1 with ⟨ga, rfl, hF, hA⟩ | ⟨gb, rfl, rfl⟩
  · have f18 := hF.2 18 (by omega)
    have f19 := hF.2 19 (by omega)
    have f20 := hF.2 20 (by omega)
    have f21 := hF.2 21 (by omega)
    have c2 := hF.1 2 (by decide)
    have c3 := hF.1 3 (by decide)
    have c4 := hF.1 4 (by decide)
    have c5 := hF.1 5 (by decide)
    have c6 := hF.1 6 (by decide)
    have hv := q5 ga.1
    refine J.iast hG rfl (by omega) (by omega) dX7_readsItem_212 ?_
    refine J.aload_n hG dX7_readsItem_213 rfl rfl ?_
    refine J.dup hG dX7_readsItem_214 (fun _ => rfl) ?_
    refine J.getI hG ciX7 rfl 20 20 rfl (Nat.le_of_ble_eq_true rfl) rfl fl_X7_121 dX7_readsItem_215 ?_
    refine J.iconst hG dX7_readsItem_218 (by decide) ?_
    refine J.iadd hG dX7_readsItem_219 (fun _ _ => (by first | (rw [up_cell _ _ _ (by decide)]; omega))) ?_
    refine J.putI hG ciX7 rfl 20 20 rfl (Nat.le_of_ble_eq_true rfl) rfl fl_X7_121 rfl rfl dX7_readsItem_220 ?_
    refine J.vret hG dX7_readsItem_223 ?_
    rw [hX]; dsimp only
    refine ⟨rfl, Or.inl ⟨_, j + 1, numS_ok (by rw [r5]; omega), Rd_store (Rd_store (Rd_take hR (by omega) hF hA (by simp [incr, up]) (by unfold incr; (repeat rw [up_cell _ _ _ (by decide)])) (by unfold incr; (repeat rw [up_cell _ _ _ (by decide)]))) 6 _ _ (by omega) rfl rfl rfl) 0 20 _ (by omega) rfl rfl rfl, ⟨by simp [up, incr, f18, d1], by simp [up, incr, f19, d2], by simp [up, incr, f20, d3]⟩, by simpa [up, incr, f21] using d4, fun s a b => ?_, fun l s a b c d => ?_, fun p a b => ?_⟩⟩
    · simpa [up, incr, c2, c3] using d5 s a (by simpa [up, incr] using b)
    · simpa [up, incr, c4, c5] using d6 l s a (by simpa [up, incr] using b) c (by simpa [up, incr] using d)
    · have b2 : p < σ 2 2 + 1 := by simpa [up, incr] using b
      by_cases hp : p = σ 2 2
      · simp [up, incr, hp, d3, hv, r5]
      · simpa [up, incr, c6, hp, d3] using d7 p a (by omega)
  · have f20 : up μ 0 8 (μ 0 6) 0 20 = μ 0 20 := up_ne _ (by decide)
    refine J.iast hG rfl (by omega) (by omega) dX7_readsItem_212 ?_
    refine J.aload_n hG dX7_readsItem_213 rfl rfl ?_
    refine J.dup hG dX7_readsItem_214 (fun _ => rfl) ?_
    refine J.getI hG ciX7 rfl 20 20 rfl (Nat.le_of_ble_eq_true rfl) rfl fl_X7_121 dX7_readsItem_215 ?_
    refine J.iconst hG dX7_readsItem_218 (by decide) ?_
    refine J.iadd hG dX7_readsItem_219 (fun _ _ => (by first | (rw [up_cell _ _ _ (by decide)]; omega))) ?_
    refine J.putI hG ciX7 rfl 20 20 rfl (Nat.le_of_ble_eq_true rfl) rfl fl_X7_121 rfl rfl dX7_readsItem_220 ?_
    refine J.vret hG dX7_readsItem_223 ?_
    rw [hX]; dsimp only
    refine ⟨rfl, Or.inr ⟨_, numS_no (by rw [r5]; omega), FrD_up (FrD_up (FrD_up r1 0 8 _ (by omega)) 6 _ _ (by omega)) 0 20 _ (by omega), ?_, ?_⟩⟩
    · simp [up, q1, r5]
    · rw [r5]; exact hS j r4

set_option maxRecDepth 100000 in
set_option maxHeartbeats 4000000 in
theorem X7_readsItem_d (μ : Mem) (m j : Nat) (σ μ0 : Mem) (hS : ∀ j : Nat, j ≤ m → 0 ≤ σ 12 j) (hR : Rd m j σ μ0 μ) (h8 : μ 0 8 < 0) (hT : MT μ) (hD : Dr σ μ) (hn : σ 1 9 = 0) : CT TM md_X7_readsItem [aR 0, aI 100] μ (fun rv μ1 => rv = none ∧ ((∃ (σ2 : Mem) (j2 : Nat), numS 0 9 (up σ 1 9 1) (fun a σ2 => .inr (up σ2 2 3 a)) = .inr σ2 ∧ Rd m j2 σ2 μ0 μ1 ∧ Dr σ2 μ1) ∨ (∃ f : Int, numS 0 9 (up σ 1 9 1) (fun a σ2 => .inr (up σ2 2 3 a)) = .inl f ∧ FrD μ0 μ1 ∧ μ1 0 8 = f ∧ 0 ≤ f))) := by
  refine CT.of (Nat.le_of_ble_eq_true rfl) (by decide) rfl (Nat.le_of_ble_eq_true rfl) (fun X hG hX => ?_)
  have hG : G TM X RX7 cX7_readsItem 3 4 87 none := hG
  show J TM X 3 0 [some (aR 0), some (aI 100), none] [] μ
  have hR2 := hR
  obtain ⟨r1, r2, r3, r4, r5, r6⟩ := hR2
  obtain ⟨q1, q2, q3, q4, q5, q6, q7, q8⟩ := Rd_J hR
  have hD2 := hD
  obtain ⟨⟨d1, d2, d3⟩, d4, d5, d6, d7⟩ := hD2
  refine J.iload_n hG dX7_readsItem_0 rfl rfl ?_
  refine J.bipush hG dX7_readsItem_1 (by decide) (by decide) ?_
  refine J.icmp_ne hG 87 dX7_readsItem_3 rfl (fun h3 => ?_) (fun h3 => absurd h3 (by omega))
  refine J.iload_n hG dX7_readsItem_87 rfl rfl ?_
  refine J.bipush hG dX7_readsItem_88 (by decide) (by decide) ?_
  refine J.icmp_ne hG 174 dX7_readsItem_90 rfl (fun h90 => ?_) (fun h90 => absurd h90 (by omega))
  refine J.iload_n hG dX7_readsItem_174 rfl rfl ?_
  refine J.bipush hG dX7_readsItem_175 (by decide) (by decide) ?_
  refine J.icmp_ne hG 194 dX7_readsItem_177 rfl (fun h177 => absurd h177 (by omega)) (fun h177 => ?_)
  refine J.aload_n hG dX7_readsItem_180 rfl rfl ?_
  refine J.aload_n hG dX7_readsItem_181 rfl rfl ?_
  refine J.iconst hG dX7_readsItem_182 (by decide) ?_
  refine J.bipush hG dX7_readsItem_183 (by decide) (by decide) ?_
  refine J.callV hG (X7_number _ 0 9 h8 hT j r3) ok_X7_number ml_X7_127 rfl rfl rfl rfl (Nat.le_of_ble_eq_true rfl) ⟨Nat.le_of_ble_eq_true rfl, Nat.le_of_ble_eq_true rfl⟩ dX7_readsItem_185 rfl (fun r1 ν1 hp1 => ?_)
  rcases hp1 with ⟨ga, rfl, hF, hA⟩ | ⟨gb, rfl, rfl⟩
  · have f18 := hF.2 18 (by omega)
    have f19 := hF.2 19 (by omega)
    have f20 := hF.2 20 (by omega)
    have f21 := hF.2 21 (by omega)
    have c2 := hF.1 2 (by decide)
    have c3 := hF.1 3 (by decide)
    have c4 := hF.1 4 (by decide)
    have c5 := hF.1 5 (by decide)
    have c6 := hF.1 6 (by decide)
    have hv := q5 ga.1
    refine J.putI hG ciX7 rfl 21 21 rfl (Nat.le_of_ble_eq_true rfl) rfl fl_X7_124 rfl rfl dX7_readsItem_188 ?_
    refine J.goto hG 223 dX7_readsItem_191 rfl ?_
    refine J.vret hG dX7_readsItem_223 ?_
    rw [hX]; dsimp only
    have es : up σ 1 9 1 11 (up σ 1 9 1 1 6) = σ 11 j := by rw [u11_1, up_ne _ (by decide), r5]
    refine ⟨rfl, Or.inl ⟨_, j + 1, numS_ok (σ := up σ 1 9 1) (by rw [es]; omega), Rd_store (Rd_take hR (by omega) hF hA (by simp [up]) (by (repeat rw [up_cell _ _ _ (by decide)])) (by (repeat rw [up_cell _ _ _ (by decide)]))) 0 21 _ (by omega) rfl rfl rfl, ⟨by simp [up, f18, d1], by simp [up, f19, d2], by simp [up, f20, d3]⟩, Or.inr ⟨by simp [up], by rw [es]; simp [up, hv], by rw [es]; simp [up]; omega⟩, fun s a b => ?_, fun l s a b c d => ?_, fun p a b => ?_⟩⟩
    · simpa [up, c2, c3] using d5 s a (by simpa [up] using b)
    · simpa [up, c4, c5] using d6 l s a (by simpa [up] using b) c (by simpa [up] using d)
    · simpa [up, c6] using d7 p a (by simpa [up] using b)
  · refine J.putI hG ciX7 rfl 21 21 rfl (Nat.le_of_ble_eq_true rfl) rfl fl_X7_124 rfl rfl dX7_readsItem_188 ?_
    refine J.goto hG 223 dX7_readsItem_191 rfl ?_
    refine J.vret hG dX7_readsItem_223 ?_
    rw [hX]; dsimp only
    have es : up σ 1 9 1 11 (up σ 1 9 1 1 6) = σ 11 j := by rw [u11_1, up_ne _ (by decide), r5]
    refine ⟨rfl, Or.inr ⟨_, numS_no (σ := up σ 1 9 1) (by rw [es]; omega), FrD_up (FrD_up r1 0 8 _ (by omega)) 0 21 _ (by omega), ?_, ?_⟩⟩
    · simp [up, q1, r5]
    · rw [u12_1, up_ne _ (by decide), r5]; exact hS j r4

set_option maxRecDepth 100000 in
set_option maxHeartbeats 4000000 in
theorem X7_readsItem_s (μ : Mem) (m j : Nat) (σ μ0 : Mem) (hS : ∀ j : Nat, j ≤ m → 0 ≤ σ 12 j) (hR : Rd m j σ μ0 μ) (h8 : μ 0 8 < 0) (hT : MT μ) (hD : Dr σ μ) (hTz : MT μ0) (hn : (0 ≤ σ 2 0 ∧ σ 2 0 < 4) ∧ σ 2 1 = 0) (h80 : μ0 0 8 < 0) : CT TM md_X7_readsItem [aR 0, aI 115] μ (fun rv μ1 => rv = none ∧ ((∃ (σ2 : Mem) (j2 : Nat), scaleS σ = .inr σ2 ∧ Rd m j2 σ2 μ0 μ1 ∧ Dr σ2 μ1) ∨ (∃ f : Int, scaleS σ = .inl f ∧ FrD μ0 μ1 ∧ μ1 0 8 = f ∧ 0 ≤ f))) := by
  refine CT.of (Nat.le_of_ble_eq_true rfl) (by decide) rfl (Nat.le_of_ble_eq_true rfl) (fun X hG hX => ?_)
  have hG : G TM X RX7 cX7_readsItem 3 4 87 none := hG
  show J TM X 3 0 [some (aR 0), some (aI 115), none] [] μ
  have hR2 := hR
  obtain ⟨r1, r2, r3, r4, r5, r6⟩ := hR2
  obtain ⟨q1, q2, q3, q4, q5, q6, q7, q8⟩ := Rd_J hR
  have hD2 := hD
  obtain ⟨⟨d1, d2, d3⟩, d4, d5, d6, d7⟩ := hD2
  refine J.iload_n hG dX7_readsItem_0 rfl rfl ?_
  refine J.bipush hG dX7_readsItem_1 (by decide) (by decide) ?_
  refine J.icmp_ne hG 87 dX7_readsItem_3 rfl (fun h3 => absurd h3 (by omega)) (fun h3 => ?_)
  refine J.aload_n hG dX7_readsItem_6 rfl rfl ?_
  refine J.getR hG ciX7 rfl 10 10 rfl (Nat.le_of_ble_eq_true rfl) rfl fl_X7_16 dX7_readsItem_7 ?_
  refine J.bipush hG dX7_readsItem_10 (by decide) (by decide) ?_
  refine J.iconst hG dX7_readsItem_12 (by decide) ?_
  refine J.aload_n hG dX7_readsItem_13 rfl rfl ?_
  refine J.getI hG ciX7 rfl 18 18 rfl (Nat.le_of_ble_eq_true rfl) rfl fl_X7_115 dX7_readsItem_14 ?_
  refine J.imul hG dX7_readsItem_17 (fun _ _ => (by omega)) ?_
  refine J.iadd hG dX7_readsItem_18 (fun _ _ => (by omega)) ?_
  refine J.aload_n hG dX7_readsItem_19 rfl rfl ?_
  refine J.iconst hG dX7_readsItem_20 (by decide) ?_
  refine J.iconst hG dX7_readsItem_21 (by decide) ?_
  refine J.callV hG (X7_number _ 0 3 h8 hT j r3) ok_X7_number ml_X7_127 rfl rfl rfl rfl (Nat.le_of_ble_eq_true rfl) ⟨Nat.le_of_ble_eq_true rfl, Nat.le_of_ble_eq_true rfl⟩ dX7_readsItem_22 rfl (fun r1 ν1 hp1 => ?_)
  rcases hp1 with ⟨ga, rfl, hF, hA⟩ | ⟨gb, rfl, rfl⟩
  · have f18 := hF.2 18 (by omega)
    have f19 := hF.2 19 (by omega)
    have f20 := hF.2 20 (by omega)
    have f21 := hF.2 21 (by omega)
    have c2 := hF.1 2 (by decide)
    have c3 := hF.1 3 (by decide)
    have c4 := hF.1 4 (by decide)
    have c5 := hF.1 5 (by decide)
    have c6 := hF.1 6 (by decide)
    have hv := q5 ga.1
    refine J.iast hG rfl (by omega) (by omega) dX7_readsItem_25 ?_
    obtain ⟨μ2, hμ2⟩ : ∃ μ2, μ2 = up ν1 3 (8 + 2 * μ 0 18) (μ 0 7) := ⟨_, rfl⟩
    rw [← hμ2]
    obtain ⟨σ1, hσ1⟩ : ∃ σ1, σ1 = up (up σ 1 6 (σ 1 6 + 1)) 8 (σ 2 0) (σ 11 (σ 1 6)) := ⟨_, rfl⟩
    have hR1 : Rd m (j + 1) σ1 μ0 μ2 := by rw [hμ2]; exact Rd_store (Rd_take hR (by omega) hF hA (by rw [hσ1]; simp [up]) (by rw [hσ1]; (repeat rw [up_cell _ _ _ (by decide)])) (by rw [hσ1]; (repeat rw [up_cell _ _ _ (by decide)]))) 3 _ _ (by omega) rfl rfl rfl
    obtain ⟨s1, s2, s3, s4, s5, s6⟩ := id hR1
    obtain ⟨w1, w2, w3, w4, w5, w6, w7, w8⟩ := Rd_J hR1
    have k18 : μ2 0 18 = σ 2 0 := by rw [hμ2]; simp [up, f18, d1]
    have z12 : σ1 12 = σ 12 := by rw [hσ1]; (repeat rw [up_cell _ _ _ (by decide)])
    have z11 : σ1 11 = σ 11 := by rw [hσ1]; (repeat rw [up_cell _ _ _ (by decide)])
    refine J.aload_n hG dX7_readsItem_26 rfl rfl ?_
    refine J.getR hG ciX7 rfl 9 9 rfl (Nat.le_of_ble_eq_true rfl) rfl fl_X7_13 dX7_readsItem_27 ?_
    refine J.iconst hG dX7_readsItem_30 (by decide) ?_
    refine J.aload_n hG dX7_readsItem_31 rfl rfl ?_
    refine J.getI hG ciX7 rfl 18 18 rfl (Nat.le_of_ble_eq_true rfl) rfl fl_X7_115 dX7_readsItem_32 ?_
    refine J.iadd hG dX7_readsItem_35 (fun _ _ => (by omega)) ?_
    refine J.aload_n hG dX7_readsItem_36 rfl rfl ?_
    refine J.iconst hG dX7_readsItem_37 (by decide) ?_
    refine J.bipush hG dX7_readsItem_38 (by decide) (by decide) ?_
    refine J.callV hG (X7_number _ 2 30 (by omega) (MT_D hTz s1) (j + 1) s3) ok_X7_number ml_X7_127 rfl rfl rfl rfl (Nat.le_of_ble_eq_true rfl) ⟨Nat.le_of_ble_eq_true rfl, Nat.le_of_ble_eq_true rfl⟩ dX7_readsItem_40 rfl (fun r1 ν3 hp1 => ?_)
    rcases hp1 with ⟨ga1, rfl, hG1, hA1⟩ | ⟨gb1, rfl, hm⟩
    · have g18 := hG1.2 18 (by omega)
      refine J.iast hG rfl (by omega) (by omega) dX7_readsItem_43 ?_
      have nS1 : scaleS σ = numS 2 30 σ1 fun b σ2 => numS 1 (up σ2 3 (σ 2 0) b 3 (σ 2 0)) (up σ2 3 (σ 2 0) b) fun c σ3 => .inr (incr (up σ3 9 (σ 2 0) c) 2 0) := by unfold scaleS; rw [numS_ok (by rw [r5]; omega), hσ1]
      obtain ⟨μ4, hμ4⟩ : ∃ μ4, μ4 = up ν3 2 (4 + μ2 0 18) (μ2 0 7) := ⟨_, rfl⟩
      rw [← hμ4]
      obtain ⟨σ2, hσ2⟩ : ∃ σ2, σ2 = up (up σ1 1 6 (σ1 1 6 + 1)) 3 (σ 2 0) (σ1 11 (σ1 1 6)) := ⟨_, rfl⟩
      have hR3 : Rd m (j + 1 + 1) σ2 μ0 μ4 := by rw [hμ4]; exact Rd_store (Rd_take hR1 (by omega) hG1 hA1 (by rw [hσ2]; simp [up]) (by rw [hσ2]; (repeat rw [up_cell _ _ _ (by decide)])) (by rw [hσ2]; (repeat rw [up_cell _ _ _ (by decide)]))) 2 _ _ (by omega) rfl rfl rfl
      obtain ⟨x1, x2, x3, x4, x5, x6⟩ := id hR3
      obtain ⟨y1, y2, y3, y4, y5, y6, y7, y8⟩ := Rd_J hR3
      have l18 : μ4 0 18 = σ 2 0 := by rw [hμ4]; simp [up, g18, k18]
      have zz12 : σ2 12 = σ 12 := by rw [hσ2, ← z12]; (repeat rw [up_cell _ _ _ (by decide)])
      have hv2 := w5 ga1.1
      have hi3 : μ4 2 (4 + μ4 0 18) = σ1 11 (σ1 1 6) := by rw [l18, hμ4, k18, up_self, hv2, s5]
      have hs3 : σ2 3 (σ 2 0) = σ1 11 (σ1 1 6) := by rw [hσ2, up_self]
      have nS2 : scaleS σ = numS 1 (σ2 3 (σ 2 0)) σ2 fun c σ3 => .inr (incr (up σ3 9 (σ 2 0) c) 2 0) := by rw [nS1, numS_ok (by rw [s5]; omega), hσ2]
      refine J.aload_n hG dX7_readsItem_44 rfl rfl ?_
      refine J.getR hG ciX7 rfl 10 10 rfl (Nat.le_of_ble_eq_true rfl) rfl fl_X7_16 dX7_readsItem_45 ?_
      refine J.bipush hG dX7_readsItem_48 (by decide) (by decide) ?_
      refine J.iconst hG dX7_readsItem_50 (by decide) ?_
      refine J.aload_n hG dX7_readsItem_51 rfl rfl ?_
      refine J.getI hG ciX7 rfl 18 18 rfl (Nat.le_of_ble_eq_true rfl) rfl fl_X7_115 dX7_readsItem_52 ?_
      refine J.imul hG dX7_readsItem_55 (fun _ _ => (by omega)) ?_
      refine J.iadd hG dX7_readsItem_56 (fun _ _ => (by omega)) ?_
      refine J.aload_n hG dX7_readsItem_57 rfl rfl ?_
      refine J.iconst hG dX7_readsItem_58 (by decide) ?_
      refine J.aload_n hG dX7_readsItem_59 rfl rfl ?_
      refine J.getR hG ciX7 rfl 9 9 rfl (Nat.le_of_ble_eq_true rfl) rfl fl_X7_13 dX7_readsItem_60 ?_
      refine J.iconst hG dX7_readsItem_63 (by decide) ?_
      refine J.aload_n hG dX7_readsItem_64 rfl rfl ?_
      refine J.getI hG ciX7 rfl 18 18 rfl (Nat.le_of_ble_eq_true rfl) rfl fl_X7_115 dX7_readsItem_65 ?_
      refine J.iadd hG dX7_readsItem_68 (fun _ _ => (by omega)) ?_
      refine J.iald hG rfl (by omega) (by omega) dX7_readsItem_69 ?_
      refine J.callV hG (X7_number _ 1 _ (by omega) (MT_D hTz x1) (j + 1 + 1) x3) ok_X7_number ml_X7_127 rfl rfl rfl rfl (Nat.le_of_ble_eq_true rfl) ⟨Nat.le_of_ble_eq_true rfl, Nat.le_of_ble_eq_true rfl⟩ dX7_readsItem_70 rfl (fun r1 ν5 hp1 => ?_)
      rcases hp1 with ⟨ga2, rfl, hH1, hA2⟩ | ⟨gb2, rfl, hm⟩
      · have i18 := hH1.2 18 (by omega)
        refine J.iast hG rfl (by omega) (by omega) dX7_readsItem_73 ?_
        refine J.aload_n hG dX7_readsItem_74 rfl rfl ?_
        refine J.dup hG dX7_readsItem_75 (fun _ => rfl) ?_
        refine J.getI hG ciX7 rfl 18 18 rfl (Nat.le_of_ble_eq_true rfl) rfl fl_X7_115 dX7_readsItem_76 ?_
        refine J.iconst hG dX7_readsItem_79 (by decide) ?_
        refine J.iadd hG dX7_readsItem_80 (fun _ _ => (by first | (rw [up_cell _ _ _ (by decide)]; omega) | (rw [up_cell _ _ _ (by decide), up_ne _ (by decide)]; omega))) ?_
        refine J.putI hG ciX7 rfl 18 18 rfl (Nat.le_of_ble_eq_true rfl) rfl fl_X7_115 rfl rfl dX7_readsItem_81 ?_
        refine J.goto hG 223 dX7_readsItem_84 rfl ?_
        refine J.vret hG dX7_readsItem_223 ?_
        rw [hX]; dsimp only
        have hv3 := y5 ga2.1
        have e21 : σ2 2 = σ 2 := by rw [hσ2, hσ1]; (repeat rw [up_cell _ _ _ (by decide)])
        have m3 : ∀ i : Int, ν5 3 i = if i = 8 + 2 * σ 2 0 then μ 0 7 else μ 3 i := fun i => by rw [hH1.1 3 (by decide), hμ4, up_cell _ _ _ (by decide), hG1.1 3 (by decide), hμ2]; simp only [up, c3, d1, true_and]
        have m2 : ∀ i : Int, ν5 2 i = if i = 4 + σ 2 0 then μ2 0 7 else μ 2 i := fun i => by rw [hH1.1 2 (by decide), hμ4]; simp only [up, k18, true_and]; rw [hG1.1 2 (by decide)]; conv => lhs; rw [show μ2 2 = μ 2 from by rw [hμ2, up_cell _ _ _ (by decide), c2]]
        have m6 : ν5 6 = μ 6 := by rw [hH1.1 6 (by decide), hμ4, up_cell _ _ _ (by decide), hG1.1 6 (by decide), hμ2, up_cell _ _ _ (by decide), c6]
        have n19 : ν5 0 19 = μ 0 19 := by rw [hH1.2 19 (by omega), hμ4, up_cell _ _ _ (by decide), hG1.2 19 (by omega), hμ2, up_cell _ _ _ (by decide), f19]
        have n20 : ν5 0 20 = μ 0 20 := by rw [hH1.2 20 (by omega), hμ4, up_cell _ _ _ (by decide), hG1.2 20 (by omega), hμ2, up_cell _ _ _ (by decide), f20]
        have n21 : ν5 0 21 = μ 0 21 := by rw [hH1.2 21 (by omega), hμ4, up_cell _ _ _ (by decide), hG1.2 21 (by omega), hμ2, up_cell _ _ _ (by decide), f21]
        refine ⟨rfl, Or.inl ⟨_, j + 1 + 1 + 1, by rw [nS2]; exact numS_ok (by rw [x5, hs3]; omega), Rd_store (Rd_store (Rd_take hR3 (by omega) hH1 hA2 (by simp [incr, up]) (by unfold incr; (repeat rw [up_cell _ _ _ (by decide)])) (by unfold incr; (repeat rw [up_cell _ _ _ (by decide)]))) 3 _ _ (by omega) rfl rfl rfl) 0 18 _ (by omega) rfl rfl rfl, ⟨?_, ?_, ?_⟩, ?_, fun s a b => ?_, fun l s a b c d => ?_, fun p a b => ?_⟩⟩
        · simp [up, incr, e21, i18, l18]
        · simp [up, incr, e21, n19, d2]
        · simp [up, incr, e21, n20, d3]
        · simpa [up, incr, hσ2, hσ1, n21] using d4
        · have b2 : s < σ 2 0 + 1 := by simpa [up, incr, e21] using b
          by_cases hs : s = σ 2 0
          · rw [hs]
            refine ⟨?_, ?_, ?_⟩
            · simp [up, incr, m2]
              rw [hs3, s5]
              exact hv2
            · simp [up, incr, m3, l18, show ¬ 8 + 2 * σ 2 0 = 9 + 2 * σ 2 0 by omega]
              rw [hσ2]
              simp [up, hσ1, r5, hv]
            · simp [up, incr, l18]
              rw [x5]
              exact hv3
          · have d := d5 s a (by omega)
            refine ⟨?_, ?_, ?_⟩
            · simp [up, incr, m2, hσ2, hσ1, hs]
              exact d.1
            · simp [up, incr, m3, l18, hs, hσ2, hσ1, show ¬ 8 + 2 * s = 9 + 2 * σ 2 0 by omega, show ¬ 8 + 2 * s = 8 + 2 * σ 2 0 by omega]
              exact d.2.1
            · simp [up, incr, m3, l18, hs, hσ2, hσ1, show ¬ 9 + 2 * s = 9 + 2 * σ 2 0 by omega, show ¬ 9 + 2 * s = 8 + 2 * σ 2 0 by omega]
              exact d.2.2
        · have b2 : l < σ 2 1 := by simpa [up, incr, e21] using b
          omega
        · simpa [up, incr, m6, hσ2, hσ1] using d7 p a (by simpa [up, incr, e21] using b)
      · rw [hm]
        clear hm
        refine J.iast hG rfl (by omega) (by omega) dX7_readsItem_73 ?_
        refine J.aload_n hG dX7_readsItem_74 rfl rfl ?_
        refine J.dup hG dX7_readsItem_75 (fun _ => rfl) ?_
        refine J.getI hG ciX7 rfl 18 18 rfl (Nat.le_of_ble_eq_true rfl) rfl fl_X7_115 dX7_readsItem_76 ?_
        refine J.iconst hG dX7_readsItem_79 (by decide) ?_
        refine J.iadd hG dX7_readsItem_80 (fun _ _ => (by first | (rw [up_cell _ _ _ (by decide)]; omega) | (rw [up_cell _ _ _ (by decide), up_ne _ (by decide)]; omega))) ?_
        refine J.putI hG ciX7 rfl 18 18 rfl (Nat.le_of_ble_eq_true rfl) rfl fl_X7_115 rfl rfl dX7_readsItem_81 ?_
        refine J.goto hG 223 dX7_readsItem_84 rfl ?_
        refine J.vret hG dX7_readsItem_223 ?_
        rw [hX]; dsimp only
        refine ⟨rfl, Or.inr ⟨_, by rw [nS2]; exact numS_no (by rw [x5, hs3]; omega), FrD_up (FrD_up (FrD_up x1 0 8 _ (by omega)) 3 _ _ (by omega)) 0 18 _ (by omega), ?_, ?_⟩⟩
        · simp [up, y1, x5]
        · rw [x5, zz12]; exact hS _ x4
    · rw [hm]
      clear hm
      refine J.iast hG rfl (by omega) (by omega) dX7_readsItem_43 ?_
      have nS1 : scaleS σ = numS 2 30 σ1 fun b σ2 => numS 1 (up σ2 3 (σ 2 0) b 3 (σ 2 0)) (up σ2 3 (σ 2 0) b) fun c σ3 => .inr (incr (up σ3 9 (σ 2 0) c) 2 0) := by unfold scaleS; rw [numS_ok (by rw [r5]; omega), hσ1]
      obtain ⟨μ4, hμ4⟩ : ∃ μ4, μ4 = up (up μ2 0 8 (μ2 0 6)) 2 (4 + μ2 0 18) 0 := ⟨_, rfl⟩
      rw [← hμ4]
      have b4 : FrD μ0 μ4 := by rw [hμ4]; exact FrD_up (FrD_up s1 0 8 _ (by omega)) 2 _ _ (by omega)
      have l18 : μ4 0 18 = σ 2 0 := by rw [hμ4]; simp [up, k18]
      have b5 : μ4 0 8 = σ 12 (j + 1 : Nat) := by rw [hμ4]; simp [up, w1, z12]
      have b3 := hS (j + 1) s4
      have bS : scaleS σ = .inl (σ 12 (j + 1 : Nat)) := by rw [nS1, numS_no (by rw [s5]; omega), s5, z12]
      refine J.aload_n hG dX7_readsItem_44 rfl rfl ?_
      refine J.getR hG ciX7 rfl 10 10 rfl (Nat.le_of_ble_eq_true rfl) rfl fl_X7_16 dX7_readsItem_45 ?_
      refine J.bipush hG dX7_readsItem_48 (by decide) (by decide) ?_
      refine J.iconst hG dX7_readsItem_50 (by decide) ?_
      refine J.aload_n hG dX7_readsItem_51 rfl rfl ?_
      refine J.getI hG ciX7 rfl 18 18 rfl (Nat.le_of_ble_eq_true rfl) rfl fl_X7_115 dX7_readsItem_52 ?_
      refine J.imul hG dX7_readsItem_55 (fun _ _ => (by omega)) ?_
      refine J.iadd hG dX7_readsItem_56 (fun _ _ => (by omega)) ?_
      refine J.aload_n hG dX7_readsItem_57 rfl rfl ?_
      refine J.iconst hG dX7_readsItem_58 (by decide) ?_
      refine J.aload_n hG dX7_readsItem_59 rfl rfl ?_
      refine J.getR hG ciX7 rfl 9 9 rfl (Nat.le_of_ble_eq_true rfl) rfl fl_X7_13 dX7_readsItem_60 ?_
      refine J.iconst hG dX7_readsItem_63 (by decide) ?_
      refine J.aload_n hG dX7_readsItem_64 rfl rfl ?_
      refine J.getI hG ciX7 rfl 18 18 rfl (Nat.le_of_ble_eq_true rfl) rfl fl_X7_115 dX7_readsItem_65 ?_
      refine J.iadd hG dX7_readsItem_68 (fun _ _ => (by omega)) ?_
      refine J.iald hG rfl (by omega) (by omega) dX7_readsItem_69 ?_
      refine J.callV hG (X7_number_b _ _ _ (by omega)) ok_X7_number ml_X7_127 rfl rfl rfl rfl (Nat.le_of_ble_eq_true rfl) ⟨Nat.le_of_ble_eq_true rfl, Nat.le_of_ble_eq_true rfl⟩ dX7_readsItem_70 rfl (fun r1 μ1 hp1 => ?_)
      obtain ⟨rfl, hm⟩ := hp1
      rw [hm]
      clear hm
      refine J.iast hG rfl (by omega) (by omega) dX7_readsItem_73 ?_
      refine J.aload_n hG dX7_readsItem_74 rfl rfl ?_
      refine J.dup hG dX7_readsItem_75 (fun _ => rfl) ?_
      refine J.getI hG ciX7 rfl 18 18 rfl (Nat.le_of_ble_eq_true rfl) rfl fl_X7_115 dX7_readsItem_76 ?_
      refine J.iconst hG dX7_readsItem_79 (by decide) ?_
      refine J.iadd hG dX7_readsItem_80 (fun _ _ => (by first | (rw [up_cell _ _ _ (by decide)]; omega) | (rw [up_cell _ _ _ (by decide), up_ne _ (by decide)]; omega))) ?_
      refine J.putI hG ciX7 rfl 18 18 rfl (Nat.le_of_ble_eq_true rfl) rfl fl_X7_115 rfl rfl dX7_readsItem_81 ?_
      refine J.goto hG 223 dX7_readsItem_84 rfl ?_
      refine J.vret hG dX7_readsItem_223 ?_
      rw [hX]; dsimp only
      refine ⟨rfl, Or.inr ⟨_, bS, FrD_up (FrD_up b4 3 _ _ (by omega)) 0 18 _ (by omega), ?_, b3⟩⟩
      simp [up, b5]
  · refine J.iast hG rfl (by omega) (by omega) dX7_readsItem_25 ?_
    obtain ⟨μ2, hμ2⟩ : ∃ μ2, μ2 = up (up μ 0 8 (μ 0 6)) 3 (8 + 2 * μ 0 18) 0 := ⟨_, rfl⟩
    rw [← hμ2]
    have b1 : FrD μ0 μ2 := by rw [hμ2]; exact FrD_up (FrD_up r1 0 8 _ (by omega)) 3 _ _ (by omega)
    have b2 : μ2 0 8 = σ 12 j := by rw [hμ2]; simp [up, q1]
    have b3 := hS j r4
    have k18 : μ2 0 18 = σ 2 0 := by rw [hμ2]; simp [up, d1]
    have bS : scaleS σ = .inl (σ 12 j) := by unfold scaleS; rw [numS_no (by rw [r5]; omega), r5]
    refine J.aload_n hG dX7_readsItem_26 rfl rfl ?_
    refine J.getR hG ciX7 rfl 9 9 rfl (Nat.le_of_ble_eq_true rfl) rfl fl_X7_13 dX7_readsItem_27 ?_
    refine J.iconst hG dX7_readsItem_30 (by decide) ?_
    refine J.aload_n hG dX7_readsItem_31 rfl rfl ?_
    refine J.getI hG ciX7 rfl 18 18 rfl (Nat.le_of_ble_eq_true rfl) rfl fl_X7_115 dX7_readsItem_32 ?_
    refine J.iadd hG dX7_readsItem_35 (fun _ _ => (by omega)) ?_
    refine J.aload_n hG dX7_readsItem_36 rfl rfl ?_
    refine J.iconst hG dX7_readsItem_37 (by decide) ?_
    refine J.bipush hG dX7_readsItem_38 (by decide) (by decide) ?_
    refine J.callV hG (X7_number_b _ 2 30 (by omega)) ok_X7_number ml_X7_127 rfl rfl rfl rfl (Nat.le_of_ble_eq_true rfl) ⟨Nat.le_of_ble_eq_true rfl, Nat.le_of_ble_eq_true rfl⟩ dX7_readsItem_40 rfl (fun r1 μ1 hp1 => ?_)
    obtain ⟨rfl, hm⟩ := hp1
    rw [hm]
    clear hm
    refine J.iast hG rfl (by omega) (by omega) dX7_readsItem_43 ?_
    obtain ⟨μ4, hμ4⟩ : ∃ μ4, μ4 = up μ2 2 (4 + μ2 0 18) 0 := ⟨_, rfl⟩
    rw [← hμ4]
    have b4 : FrD μ0 μ4 := by rw [hμ4]; exact FrD_up b1 2 _ _ (by omega)
    have l18 : μ4 0 18 = σ 2 0 := by rw [hμ4]; simp [up, k18]
    have b5 : μ4 0 8 = σ 12 j := by rw [hμ4]; simp [up, b2]
    refine J.aload_n hG dX7_readsItem_44 rfl rfl ?_
    refine J.getR hG ciX7 rfl 10 10 rfl (Nat.le_of_ble_eq_true rfl) rfl fl_X7_16 dX7_readsItem_45 ?_
    refine J.bipush hG dX7_readsItem_48 (by decide) (by decide) ?_
    refine J.iconst hG dX7_readsItem_50 (by decide) ?_
    refine J.aload_n hG dX7_readsItem_51 rfl rfl ?_
    refine J.getI hG ciX7 rfl 18 18 rfl (Nat.le_of_ble_eq_true rfl) rfl fl_X7_115 dX7_readsItem_52 ?_
    refine J.imul hG dX7_readsItem_55 (fun _ _ => (by omega)) ?_
    refine J.iadd hG dX7_readsItem_56 (fun _ _ => (by omega)) ?_
    refine J.aload_n hG dX7_readsItem_57 rfl rfl ?_
    refine J.iconst hG dX7_readsItem_58 (by decide) ?_
    refine J.aload_n hG dX7_readsItem_59 rfl rfl ?_
    refine J.getR hG ciX7 rfl 9 9 rfl (Nat.le_of_ble_eq_true rfl) rfl fl_X7_13 dX7_readsItem_60 ?_
    refine J.iconst hG dX7_readsItem_63 (by decide) ?_
    refine J.aload_n hG dX7_readsItem_64 rfl rfl ?_
    refine J.getI hG ciX7 rfl 18 18 rfl (Nat.le_of_ble_eq_true rfl) rfl fl_X7_115 dX7_readsItem_65 ?_
    refine J.iadd hG dX7_readsItem_68 (fun _ _ => (by omega)) ?_
    refine J.iald hG rfl (by omega) (by omega) dX7_readsItem_69 ?_
    refine J.callV hG (X7_number_b _ _ _ (by omega)) ok_X7_number ml_X7_127 rfl rfl rfl rfl (Nat.le_of_ble_eq_true rfl) ⟨Nat.le_of_ble_eq_true rfl, Nat.le_of_ble_eq_true rfl⟩ dX7_readsItem_70 rfl (fun r1 μ1 hp1 => ?_)
    obtain ⟨rfl, hm⟩ := hp1
    rw [hm]
    clear hm
    refine J.iast hG rfl (by omega) (by omega) dX7_readsItem_73 ?_
    refine J.aload_n hG dX7_readsItem_74 rfl rfl ?_
    refine J.dup hG dX7_readsItem_75 (fun _ => rfl) ?_
    refine J.getI hG ciX7 rfl 18 18 rfl (Nat.le_of_ble_eq_true rfl) rfl fl_X7_115 dX7_readsItem_76 ?_
    refine J.iconst hG dX7_readsItem_79 (by decide) ?_
    refine J.iadd hG dX7_readsItem_80 (fun _ _ => (by first | (rw [up_cell _ _ _ (by decide)]; omega) | (rw [up_cell _ _ _ (by decide), up_ne _ (by decide)]; omega))) ?_
    refine J.putI hG ciX7 rfl 18 18 rfl (Nat.le_of_ble_eq_true rfl) rfl fl_X7_115 rfl rfl dX7_readsItem_81 ?_
    refine J.goto hG 223 dX7_readsItem_84 rfl ?_
    refine J.vret hG dX7_readsItem_223 ?_
    rw [hX]; dsimp only
    refine ⟨rfl, Or.inr ⟨_, bS, FrD_up (FrD_up b4 3 _ _ (by omega)) 0 18 _ (by omega), ?_, b3⟩⟩
    simp [up, b5]


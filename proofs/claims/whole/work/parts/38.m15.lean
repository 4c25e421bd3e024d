set_option maxRecDepth 100000 in
set_option maxHeartbeats 4000000 in
theorem X7_readsItem_l (μ : Mem) (m j : Nat) (σ μ0 : Mem) (hS : ∀ j : Nat, j ≤ m → 0 ≤ σ 12 j) (hR : Rd m j σ μ0 μ) (h8 : μ 0 8 < 0) (hT : MT μ) (hD : Dr σ μ) (hTz : MT μ0) (hn : (0 ≤ σ 2 0 ∧ σ 2 0 ≤ 4) ∧ (0 ≤ σ 2 1 ∧ σ 2 1 < 4)) (hrg : ∀ s : Int, 0 ≤ s → s < σ 2 0 → 2 ≤ σ 3 s ∧ σ 3 s ≤ 30) (h80 : μ0 0 8 < 0) : CT TM md_X7_readsItem [aR 0, aI 108] μ (fun rv μ1 => rv = none ∧ ((∃ (σ2 : Mem) (j2 : Nat), lifeS (σ 2 0).toNat 0 σ = .inr σ2 ∧ Rd m j2 σ2 μ0 μ1 ∧ Dr σ2 μ1) ∨ (∃ f : Int, lifeS (σ 2 0).toNat 0 σ = .inl f ∧ FrD μ0 μ1 ∧ μ1 0 8 = f ∧ 0 ≤ f))) := by
  refine CT.of (Nat.le_of_ble_eq_true rfl) (by decide) rfl (Nat.le_of_ble_eq_true rfl) (fun X hG hX => ?_)
  have hG : G TM X RX7 cX7_readsItem 3 4 87 none := hG
  show J TM X 3 0 [some (aR 0), some (aI 108), none] [] μ
  have finb : ∀ (k : Nat) (i f : Int) (ν : Mem), i + k = σ 2 0 → 0 ≤ i → FrD μ0 ν → ν 0 8 = f → 0 ≤ f → ν 0 18 = σ 2 0 → ν 0 19 = σ 2 1 → lifeS (σ 2 0).toNat 0 σ = .inl f → J TM X 3 95 [some (aR 0), some (aI 108), some (aI i)] [] ν := by
    intro k
    induction k with
    | zero =>
      intro i f ν i0 i1 hF hf h0 h18 h19 hr
      refine J.iload_n hG dX7_readsItem_95 rfl rfl ?_
      refine J.aload_n hG dX7_readsItem_96 rfl rfl ?_
      refine J.getI hG ciX7 rfl 18 18 rfl (Nat.le_of_ble_eq_true rfl) rfl fl_X7_115 dX7_readsItem_97 ?_
      refine J.icmp_ge hG 161 dX7_readsItem_100 rfl (fun h100 => ?_) (fun h100 => absurd h100 (by omega))
      refine J.aload_n hG dX7_readsItem_161 rfl rfl ?_
      refine J.dup hG dX7_readsItem_162 (fun _ => rfl) ?_
      refine J.getI hG ciX7 rfl 19 19 rfl (Nat.le_of_ble_eq_true rfl) rfl fl_X7_118 dX7_readsItem_163 ?_
      refine J.iconst hG dX7_readsItem_166 (by decide) ?_
      refine J.iadd hG dX7_readsItem_167 (fun _ _ => (by omega)) ?_
      refine J.putI hG ciX7 rfl 19 19 rfl (Nat.le_of_ble_eq_true rfl) rfl fl_X7_118 rfl rfl dX7_readsItem_168 ?_
      refine J.goto hG 223 dX7_readsItem_171 rfl ?_
      refine J.vret hG dX7_readsItem_223 ?_
      rw [hX]; dsimp only
      exact ⟨rfl, Or.inr ⟨_, hr, FrD_up hF 0 19 _ (by omega), by simp [up, hf], h0⟩⟩
    | succ k ih =>
      intro i f ν i0 i1 hF hf h0 h18 h19 hr
      refine J.iload_n hG dX7_readsItem_95 rfl rfl ?_
      refine J.aload_n hG dX7_readsItem_96 rfl rfl ?_
      refine J.getI hG ciX7 rfl 18 18 rfl (Nat.le_of_ble_eq_true rfl) rfl fl_X7_115 dX7_readsItem_97 ?_
      refine J.icmp_ge hG 161 dX7_readsItem_100 rfl (fun h100 => absurd h100 (by omega)) (fun h100 => ?_)
      refine J.aload_n hG dX7_readsItem_103 rfl rfl ?_
      refine J.getR hG ciX7 rfl 11 11 rfl (Nat.le_of_ble_eq_true rfl) rfl fl_X7_19 dX7_readsItem_104 ?_
      refine J.bipush hG dX7_readsItem_107 (by decide) (by decide) ?_
      refine J.iconst hG dX7_readsItem_109 (by decide) ?_
      refine J.aload_n hG dX7_readsItem_110 rfl rfl ?_
      refine J.getI hG ciX7 rfl 19 19 rfl (Nat.le_of_ble_eq_true rfl) rfl fl_X7_118 dX7_readsItem_111 ?_
      refine J.imul hG dX7_readsItem_114 (fun _ _ => (by first | omega | (rw [up_cell _ _ _ (by decide)]; omega))) ?_
      refine J.iadd hG dX7_readsItem_115 (fun _ _ => (by first | omega | (rw [up_cell _ _ _ (by decide)]; omega))) ?_
      refine J.iload_n hG dX7_readsItem_116 rfl rfl ?_
      refine J.iadd hG dX7_readsItem_117 (fun _ _ => (by first | omega | (rw [up_cell _ _ _ (by decide)]; omega))) ?_
      refine J.aload_n hG dX7_readsItem_118 rfl rfl ?_
      refine J.iconst hG dX7_readsItem_119 (by decide) ?_
      refine J.aload_n hG dX7_readsItem_120 rfl rfl ?_
      refine J.getR hG ciX7 rfl 9 9 rfl (Nat.le_of_ble_eq_true rfl) rfl fl_X7_13 dX7_readsItem_121 ?_
      refine J.iconst hG dX7_readsItem_124 (by decide) ?_
      refine J.iload_n hG dX7_readsItem_125 rfl rfl ?_
      refine J.iadd hG dX7_readsItem_126 (fun _ _ => (by first | omega | (rw [up_cell _ _ _ (by decide)]; omega))) ?_
      refine J.iald hG rfl (by first | omega | (rw [up_cell _ _ _ (by decide)]; omega)) (by first | omega | (rw [up_cell _ _ _ (by decide)]; omega)) dX7_readsItem_127 ?_
      refine J.callV hG (X7_number_b _ _ _ (by omega)) ok_X7_number ml_X7_127 rfl rfl rfl rfl (Nat.le_of_ble_eq_true rfl) ⟨Nat.le_of_ble_eq_true rfl, Nat.le_of_ble_eq_true rfl⟩ dX7_readsItem_128 rfl (fun r1 μ1 hp1 => ?_)
      obtain ⟨rfl, hm⟩ := hp1
      rw [hm]
      clear hm
      refine J.iast hG rfl (by first | omega | (rw [up_cell _ _ _ (by decide)]; omega)) (by first | omega | (rw [up_cell _ _ _ (by decide)]; omega)) dX7_readsItem_131 ?_
      refine J.aload_n hG dX7_readsItem_132 rfl rfl ?_
      refine J.getR hG ciX7 rfl 12 12 rfl (Nat.le_of_ble_eq_true rfl) rfl fl_X7_22 dX7_readsItem_133 ?_
      refine J.bipush hG dX7_readsItem_136 (by decide) (by decide) ?_
      refine J.iconst hG dX7_readsItem_138 (by decide) ?_
      refine J.aload_n hG dX7_readsItem_139 rfl rfl ?_
      refine J.getI hG ciX7 rfl 19 19 rfl (Nat.le_of_ble_eq_true rfl) rfl fl_X7_118 dX7_readsItem_140 ?_
      refine J.imul hG dX7_readsItem_143 (fun _ _ => (by first | omega | (rw [up_cell _ _ _ (by decide)]; omega))) ?_
      refine J.iadd hG dX7_readsItem_144 (fun _ _ => (by first | omega | (rw [up_cell _ _ _ (by decide)]; omega))) ?_
      refine J.iload_n hG dX7_readsItem_145 rfl rfl ?_
      refine J.iadd hG dX7_readsItem_146 (fun _ _ => (by first | omega | (rw [up_cell _ _ _ (by decide)]; omega))) ?_
      refine J.aload_n hG dX7_readsItem_147 rfl rfl ?_
      refine J.iconst hG dX7_readsItem_148 (by decide) ?_
      refine J.bipush hG dX7_readsItem_149 (by decide) (by decide) ?_
      refine J.callV hG (X7_number_b _ _ _ (by rw [up_cell _ _ _ (by decide)]; omega)) ok_X7_number ml_X7_127 rfl rfl rfl rfl (Nat.le_of_ble_eq_true rfl) ⟨Nat.le_of_ble_eq_true rfl, Nat.le_of_ble_eq_true rfl⟩ dX7_readsItem_151 rfl (fun r1 μ1 hp1 => ?_)
      obtain ⟨rfl, hm⟩ := hp1
      rw [hm]
      clear hm
      refine J.iast hG rfl (by first | omega | (rw [up_cell _ _ _ (by decide)]; omega)) (by first | omega | (rw [up_cell _ _ _ (by decide)]; omega)) dX7_readsItem_154 ?_
      refine J.iinc hG dX7_readsItem_155 (Nat.le_of_ble_eq_true rfl) rfl (fun _ => (by first | omega | (rw [up_cell _ _ _ (by decide)]; omega))) ?_
      refine J.goto hG 95 dX7_readsItem_158 rfl ?_
      exact ih (i + 1) f _ (by omega) (by omega) (FrD_up (FrD_up hF 4 _ _ (by omega)) 5 _ _ (by rw [up_cell _ _ _ (by decide)]; omega)) (by simp [up, hf]) h0 (by simp [up, h18]) (by simp [up, h19]) hr
  have lp : ∀ (k : Nat) (i : Int) (jj : Nat) (τ ν : Mem), i + k = σ 2 0 → 0 ≤ i → Rd m jj τ μ0 ν → Dr τ ν → (∀ s : Int, 0 ≤ s → s < i → ν 4 (16 + 4 * σ 2 1 + s) = τ 7 (σ 2 1 * 4 + s) ∧ ν 5 (16 + 4 * σ 2 1 + s) = τ 4 (σ 2 1 * 4 + s) + 3) → τ 2 = σ 2 → τ 3 = σ 3 → τ 12 = σ 12 → lifeS k i τ = lifeS (σ 2 0).toNat 0 σ → J TM X 3 95 [some (aR 0), some (aI 108), some (aI i)] [] ν := by
    intro k
    induction k with
    | zero =>
      intro i jj τ ν i0 i1 hRj hDj hrow e2 e3 e12 hr
      obtain ⟨⟨d1, d2, d3⟩, d4, d5, d6, d7⟩ := hDj
      have h18 : ν 0 18 = σ 2 0 := by rw [d1, e2]
      have h19 : ν 0 19 = σ 2 1 := by rw [d2, e2]
      rw [lifeS] at hr
      refine J.iload_n hG dX7_readsItem_95 rfl rfl ?_
      refine J.aload_n hG dX7_readsItem_96 rfl rfl ?_
      refine J.getI hG ciX7 rfl 18 18 rfl (Nat.le_of_ble_eq_true rfl) rfl fl_X7_115 dX7_readsItem_97 ?_
      refine J.icmp_ge hG 161 dX7_readsItem_100 rfl (fun h100 => ?_) (fun h100 => absurd h100 (by omega))
      refine J.aload_n hG dX7_readsItem_161 rfl rfl ?_
      refine J.dup hG dX7_readsItem_162 (fun _ => rfl) ?_
      refine J.getI hG ciX7 rfl 19 19 rfl (Nat.le_of_ble_eq_true rfl) rfl fl_X7_118 dX7_readsItem_163 ?_
      refine J.iconst hG dX7_readsItem_166 (by decide) ?_
      refine J.iadd hG dX7_readsItem_167 (fun _ _ => (by omega)) ?_
      refine J.putI hG ciX7 rfl 19 19 rfl (Nat.le_of_ble_eq_true rfl) rfl fl_X7_118 rfl rfl dX7_readsItem_168 ?_
      refine J.goto hG 223 dX7_readsItem_171 rfl ?_
      refine J.vret hG dX7_readsItem_223 ?_
      rw [hX]; dsimp only
      refine ⟨rfl, Or.inl ⟨_, jj, hr.symm, Rd_store hRj 0 19 _ (by omega) (by simp [incr, up]) (by unfold incr; rw [up_cell _ _ _ (by decide)]) (by unfold incr; rw [up_cell _ _ _ (by decide)]), ⟨by simp [up, incr, d1], by simp [up, incr, d2], by simp [up, incr, d3]⟩, by simpa [up, incr] using d4, fun s a b => by simpa [up, incr] using d5 s a (by simpa [up, incr] using b), fun l s a b c d => ?_, fun p a b => by simpa [up, incr] using d7 p a (by simpa [up, incr] using b)⟩⟩
      have b2 : l < τ 2 1 + 1 := by simpa [up, incr] using b
      have dd2 : s < τ 2 0 := by simpa [up, incr] using d
      by_cases hl : l = τ 2 1
      · have q := hrow s c (by rw [e2] at dd2; omega)
        simp [up, incr, hl, e2]
        exact q
      · simpa [up, incr] using d6 l s a (by omega) c dd2
    | succ k ih =>
      intro i jj τ ν i0 i1 hRj hDj hrow e2 e3 e12 hr
      have h18 : ν 0 18 = σ 2 0 := by rw [hDj.1.1, e2]
      have h19 : ν 0 19 = σ 2 1 := by rw [hDj.1.2.1, e2]
      have hri := hrg i (by omega) (by omega)
      have hi3 : ν 2 (4 + i) = σ 3 i := by rw [(hDj.2.2.1 i (by omega) (by rw [e2]; omega)).1, e3]
      obtain ⟨s1, s2, s3, s4, s5, s6⟩ := id hRj
      obtain ⟨w1, w2, w3, w4, w5, w6, w7, w8⟩ := Rd_J hRj
      refine J.iload_n hG dX7_readsItem_95 rfl rfl ?_
      refine J.aload_n hG dX7_readsItem_96 rfl rfl ?_
      refine J.getI hG ciX7 rfl 18 18 rfl (Nat.le_of_ble_eq_true rfl) rfl fl_X7_115 dX7_readsItem_97 ?_
      refine J.icmp_ge hG 161 dX7_readsItem_100 rfl (fun h100 => absurd h100 (by omega)) (fun h100 => ?_)
      refine J.aload_n hG dX7_readsItem_103 rfl rfl ?_
      refine J.getR hG ciX7 rfl 11 11 rfl (Nat.le_of_ble_eq_true rfl) rfl fl_X7_19 dX7_readsItem_104 ?_
      refine J.bipush hG dX7_readsItem_107 (by decide) (by decide) ?_
      refine J.iconst hG dX7_readsItem_109 (by decide) ?_
      refine J.aload_n hG dX7_readsItem_110 rfl rfl ?_
      refine J.getI hG ciX7 rfl 19 19 rfl (Nat.le_of_ble_eq_true rfl) rfl fl_X7_118 dX7_readsItem_111 ?_
      refine J.imul hG dX7_readsItem_114 (fun _ _ => (by first | omega | (rw [up_cell _ _ _ (by decide)]; omega))) ?_
      refine J.iadd hG dX7_readsItem_115 (fun _ _ => (by first | omega | (rw [up_cell _ _ _ (by decide)]; omega))) ?_
      refine J.iload_n hG dX7_readsItem_116 rfl rfl ?_
      refine J.iadd hG dX7_readsItem_117 (fun _ _ => (by first | omega | (rw [up_cell _ _ _ (by decide)]; omega))) ?_
      refine J.aload_n hG dX7_readsItem_118 rfl rfl ?_
      refine J.iconst hG dX7_readsItem_119 (by decide) ?_
      refine J.aload_n hG dX7_readsItem_120 rfl rfl ?_
      refine J.getR hG ciX7 rfl 9 9 rfl (Nat.le_of_ble_eq_true rfl) rfl fl_X7_13 dX7_readsItem_121 ?_
      refine J.iconst hG dX7_readsItem_124 (by decide) ?_
      refine J.iload_n hG dX7_readsItem_125 rfl rfl ?_
      refine J.iadd hG dX7_readsItem_126 (fun _ _ => (by first | omega | (rw [up_cell _ _ _ (by decide)]; omega))) ?_
      refine J.iald hG rfl (by first | omega | (rw [up_cell _ _ _ (by decide)]; omega)) (by first | omega | (rw [up_cell _ _ _ (by decide)]; omega)) dX7_readsItem_127 ?_
      refine J.callV hG (X7_number _ 0 _ (by omega) (MT_D hTz s1) jj s3) ok_X7_number ml_X7_127 rfl rfl rfl rfl (Nat.le_of_ble_eq_true rfl) ⟨Nat.le_of_ble_eq_true rfl, Nat.le_of_ble_eq_true rfl⟩ dX7_readsItem_128 rfl (fun r1 ν1 hp1 => ?_)
      rcases hp1 with ⟨ga, rfl, hF, hA⟩ | ⟨gb, rfl, rfl⟩
      · refine J.iast hG rfl (by first | omega | (rw [up_cell _ _ _ (by decide)]; omega)) (by first | omega | (rw [up_cell _ _ _ (by decide)]; omega)) dX7_readsItem_131 ?_
        obtain ⟨μ2, hμ2⟩ : ∃ μ2, μ2 = up ν1 4 (16 + 4 * ν 0 19 + i) (ν 0 7) := ⟨_, rfl⟩
        rw [← hμ2]
        obtain ⟨σ1, hσ1⟩ : ∃ σ1, σ1 = up (up τ 1 6 (τ 1 6 + 1)) 7 (σ 2 1 * 4 + i) (τ 11 (τ 1 6)) := ⟨_, rfl⟩
        have hR1 : Rd m (jj + 1) σ1 μ0 μ2 := by rw [hμ2]; exact Rd_store (Rd_take hRj (by omega) hF hA (by rw [hσ1]; simp [up]) (by rw [hσ1]; (repeat rw [up_cell _ _ _ (by decide)])) (by rw [hσ1]; (repeat rw [up_cell _ _ _ (by decide)]))) 4 _ _ (by omega) rfl rfl rfl
        obtain ⟨x1, x2, x3, x4, x5, x6⟩ := id hR1
        obtain ⟨y1, y2, y3, y4, y5, y6, y7, y8⟩ := Rd_J hR1
        have k19 : μ2 0 19 = σ 2 1 := by rw [hμ2]; simp [up, hF.2 19 (by omega), h19]
        have nS1 : lifeS (k + 1) i τ = numS 0 6 σ1 fun b σ2 => lifeS k (i + 1) (up σ2 4 (τ 2 1 * 4 + i) (b - 3)) := by rw [lifeS, numS_ok (by rw [s5, e3]; omega), hσ1, e2]
        have hv1 := w5 ga.1
        refine J.aload_n hG dX7_readsItem_132 rfl rfl ?_
        refine J.getR hG ciX7 rfl 12 12 rfl (Nat.le_of_ble_eq_true rfl) rfl fl_X7_22 dX7_readsItem_133 ?_
        refine J.bipush hG dX7_readsItem_136 (by decide) (by decide) ?_
        refine J.iconst hG dX7_readsItem_138 (by decide) ?_
        refine J.aload_n hG dX7_readsItem_139 rfl rfl ?_
        refine J.getI hG ciX7 rfl 19 19 rfl (Nat.le_of_ble_eq_true rfl) rfl fl_X7_118 dX7_readsItem_140 ?_
        refine J.imul hG dX7_readsItem_143 (fun _ _ => (by first | omega | (rw [up_cell _ _ _ (by decide)]; omega))) ?_
        refine J.iadd hG dX7_readsItem_144 (fun _ _ => (by first | omega | (rw [up_cell _ _ _ (by decide)]; omega))) ?_
        refine J.iload_n hG dX7_readsItem_145 rfl rfl ?_
        refine J.iadd hG dX7_readsItem_146 (fun _ _ => (by first | omega | (rw [up_cell _ _ _ (by decide)]; omega))) ?_
        refine J.aload_n hG dX7_readsItem_147 rfl rfl ?_
        refine J.iconst hG dX7_readsItem_148 (by decide) ?_
        refine J.bipush hG dX7_readsItem_149 (by decide) (by decide) ?_
        refine J.callV hG (X7_number _ 0 6 (by omega) (MT_D hTz x1) (jj + 1) x3) ok_X7_number ml_X7_127 rfl rfl rfl rfl (Nat.le_of_ble_eq_true rfl) ⟨Nat.le_of_ble_eq_true rfl, Nat.le_of_ble_eq_true rfl⟩ dX7_readsItem_151 rfl (fun r1 ν3 hp1 => ?_)
        rcases hp1 with ⟨ga1, rfl, hQ, hA1⟩ | ⟨gb1, rfl, hm⟩
        · refine J.iast hG rfl (by first | omega | (rw [up_cell _ _ _ (by decide)]; omega)) (by first | omega | (rw [up_cell _ _ _ (by decide)]; omega)) dX7_readsItem_154 ?_
          refine J.iinc hG dX7_readsItem_155 (Nat.le_of_ble_eq_true rfl) rfl (fun _ => (by first | omega | (rw [up_cell _ _ _ (by decide)]; omega))) ?_
          refine J.goto hG 95 dX7_readsItem_158 rfl ?_
          obtain ⟨σ2, hσ2⟩ : ∃ σ2, σ2 = up (up σ1 1 6 (σ1 1 6 + 1)) 4 (σ 2 1 * 4 + i) (σ1 11 (σ1 1 6) - 3) := ⟨_, rfl⟩
          have hv2 := y5 ga1.1
          have c2 : ν3 2 = ν 2 := by rw [hQ.1 2 (by decide), hμ2, up_cell _ _ _ (by decide), hF.1 2 (by decide)]
          have c3 : ν3 3 = ν 3 := by rw [hQ.1 3 (by decide), hμ2, up_cell _ _ _ (by decide), hF.1 3 (by decide)]
          have c5 : ν3 5 = ν 5 := by rw [hQ.1 5 (by decide), hμ2, up_cell _ _ _ (by decide), hF.1 5 (by decide)]
          have c6 : ν3 6 = ν 6 := by rw [hQ.1 6 (by decide), hμ2, up_cell _ _ _ (by decide), hF.1 6 (by decide)]
          have c4 : ∀ z : Int, ν3 4 z = if z = 16 + 4 * σ 2 1 + i then ν 0 7 else ν 4 z := fun z => by rw [hQ.1 4 (by decide), hμ2]; simp only [up, h19, true_and, hF.1 4 (by decide)]
          have n18 : ν3 0 18 = ν 0 18 := by rw [hQ.2 18 (by omega), hμ2, up_cell _ _ _ (by decide), hF.2 18 (by omega)]
          have n19 : ν3 0 19 = ν 0 19 := by rw [hQ.2 19 (by omega), hμ2, up_cell _ _ _ (by decide), hF.2 19 (by omega)]
          have n20 : ν3 0 20 = ν 0 20 := by rw [hQ.2 20 (by omega), hμ2, up_cell _ _ _ (by decide), hF.2 20 (by omega)]
          have n21 : ν3 0 21 = ν 0 21 := by rw [hQ.2 21 (by omega), hμ2, up_cell _ _ _ (by decide), hF.2 21 (by omega)]
          have t22 : σ2 2 = σ 2 := by rw [hσ2, hσ1, ← e2]; (repeat rw [up_cell _ _ _ (by decide)])
          have t33 : σ2 3 = σ 3 := by rw [hσ2, hσ1, ← e3]; (repeat rw [up_cell _ _ _ (by decide)])
          obtain ⟨⟨d1, d2, d3⟩, d4, d5, d6, d7⟩ := hDj
          rw [e2] at d1 d2 d3 d4 d5 d6 d7
          refine ih (i + 1) (jj + 1 + 1) σ2 _ (by omega) (by omega) (Rd_store (Rd_take hR1 (by omega) hQ hA1 (by rw [hσ2]; simp [up]) (by rw [hσ2]; (repeat rw [up_cell _ _ _ (by decide)])) (by rw [hσ2]; (repeat rw [up_cell _ _ _ (by decide)]))) 5 (16 + 4 * μ2 0 19 + i) _ (by omega) rfl rfl rfl) ⟨⟨?_, ?_, ?_⟩, ?_, fun s a b => ?_, fun l s a b c d => ?_, fun p a b => ?_⟩ (fun s a b => ?_) t22 t33 (by rw [hσ2, hσ1, ← e12]; (repeat rw [up_cell _ _ _ (by decide)])) (by rw [← hr, nS1, numS_ok (by rw [x5]; omega), hσ2, e2])
          · simp [up, t22, n18, d1]
          · simp [up, t22, n19, d2]
          · simp [up, t22, n20, d3]
          · simpa [up, hσ2, hσ1, n21, e2] using d4
          · rw [t22] at b
            simpa [up, t22, t33, hσ2, hσ1, c2, c3, e3] using d5 s a b
          · rw [t22] at b d
            have q := d6 l s a b c d
            simp [up, k19, c4, c5, hσ2, hσ1, show ¬ 16 + 4 * l + s = 16 + 4 * σ 2 1 + i by omega, show ¬ l * 4 + s = σ 2 1 * 4 + i by omega]
            exact q
          · rw [t22] at b
            simpa [up, hσ2, hσ1, c6] using d7 p a b
          · by_cases hs : s = i
            · rw [hs]
              simp [up, k19, c4, hσ2, hσ1, s5, hv1]
              rw [hv2, hσ1]
              simp [up, s5]
            · have q := hrow s a (by omega)
              simp [up, k19, c4, c5, hσ2, hσ1, hs]
              exact q
        · rw [hm]
          clear hm
          refine J.iast hG rfl (by first | omega | (rw [up_cell _ _ _ (by decide)]; omega)) (by first | omega | (rw [up_cell _ _ _ (by decide)]; omega)) dX7_readsItem_154 ?_
          refine J.iinc hG dX7_readsItem_155 (Nat.le_of_ble_eq_true rfl) rfl (fun _ => (by first | omega | (rw [up_cell _ _ _ (by decide)]; omega))) ?_
          refine J.goto hG 95 dX7_readsItem_158 rfl ?_
          have b3 := hS (jj + 1) x4
          exact finb k (i + 1) (σ 12 (jj + 1 : Nat)) _ (by omega) (by omega) (FrD_up (FrD_up x1 0 8 _ (by omega)) 5 _ _ (by omega)) (by simp [up, y1, hσ1, e12]) b3 (by simp [up, hμ2, hF.2 18 (by omega), h18]) (by simp [up, k19]) (by rw [← hr, nS1, numS_no (by rw [x5]; omega), x5, hσ1]; simp [up, e12])
      · refine J.iast hG rfl (by first | omega | (rw [up_cell _ _ _ (by decide)]; omega)) (by first | omega | (rw [up_cell _ _ _ (by decide)]; omega)) dX7_readsItem_131 ?_
        obtain ⟨μ2, hμ2⟩ : ∃ μ2, μ2 = up (up ν 0 8 (ν 0 6)) 4 (16 + 4 * ν 0 19 + i) 0 := ⟨_, rfl⟩
        rw [← hμ2]
        have b1 : FrD μ0 μ2 := by rw [hμ2]; exact FrD_up (FrD_up s1 0 8 _ (by omega)) 4 _ _ (by omega)
        have b2 : μ2 0 8 = σ 12 jj := by rw [hμ2]; simp [up, w1, e12]
        have b3 := hS jj s4
        have k18 : μ2 0 18 = σ 2 0 := by rw [hμ2]; simp [up, h18]
        have k19 : μ2 0 19 = σ 2 1 := by rw [hμ2]; simp [up, h19]
        have bS : lifeS (σ 2 0).toNat 0 σ = .inl (σ 12 jj) := by rw [← hr, lifeS, numS_no (by rw [s5, e3]; omega), s5, e12]
        refine J.aload_n hG dX7_readsItem_132 rfl rfl ?_
        refine J.getR hG ciX7 rfl 12 12 rfl (Nat.le_of_ble_eq_true rfl) rfl fl_X7_22 dX7_readsItem_133 ?_
        refine J.bipush hG dX7_readsItem_136 (by decide) (by decide) ?_
        refine J.iconst hG dX7_readsItem_138 (by decide) ?_
        refine J.aload_n hG dX7_readsItem_139 rfl rfl ?_
        refine J.getI hG ciX7 rfl 19 19 rfl (Nat.le_of_ble_eq_true rfl) rfl fl_X7_118 dX7_readsItem_140 ?_
        refine J.imul hG dX7_readsItem_143 (fun _ _ => (by first | omega | (rw [up_cell _ _ _ (by decide)]; omega))) ?_
        refine J.iadd hG dX7_readsItem_144 (fun _ _ => (by first | omega | (rw [up_cell _ _ _ (by decide)]; omega))) ?_
        refine J.iload_n hG dX7_readsItem_145 rfl rfl ?_
        refine J.iadd hG dX7_readsItem_146 (fun _ _ => (by first | omega | (rw [up_cell _ _ _ (by decide)]; omega))) ?_
        refine J.aload_n hG dX7_readsItem_147 rfl rfl ?_
        refine J.iconst hG dX7_readsItem_148 (by decide) ?_
        refine J.bipush hG dX7_readsItem_149 (by decide) (by decide) ?_
        refine J.callV hG (X7_number_b _ 0 6 (by omega)) ok_X7_number ml_X7_127 rfl rfl rfl rfl (Nat.le_of_ble_eq_true rfl) ⟨Nat.le_of_ble_eq_true rfl, Nat.le_of_ble_eq_true rfl⟩ dX7_readsItem_151 rfl (fun r1 μ1 hp1 => ?_)
        obtain ⟨rfl, hm⟩ := hp1
        rw [hm]
        clear hm
        refine J.iast hG rfl (by first | omega | (rw [up_cell _ _ _ (by decide)]; omega)) (by first | omega | (rw [up_cell _ _ _ (by decide)]; omega)) dX7_readsItem_154 ?_
        refine J.iinc hG dX7_readsItem_155 (Nat.le_of_ble_eq_true rfl) rfl (fun _ => (by first | omega | (rw [up_cell _ _ _ (by decide)]; omega))) ?_
        refine J.goto hG 95 dX7_readsItem_158 rfl ?_
        exact finb k (i + 1) _ _ (by omega) (by omega) (FrD_up b1 5 _ _ (by omega)) (by simp [up, b2]) b3 (by simp [up, k18]) (by simp [up, k19]) bS
  refine J.iload_n hG dX7_readsItem_0 rfl rfl ?_
  refine J.bipush hG dX7_readsItem_1 (by decide) (by decide) ?_
  refine J.icmp_ne hG 87 dX7_readsItem_3 rfl (fun h3 => ?_) (fun h3 => absurd h3 (by omega))
  refine J.iload_n hG dX7_readsItem_87 rfl rfl ?_
  refine J.bipush hG dX7_readsItem_88 (by decide) (by decide) ?_
  refine J.icmp_ne hG 174 dX7_readsItem_90 rfl (fun h90 => absurd h90 (by omega)) (fun h90 => ?_)
  refine J.iconst hG dX7_readsItem_93 (by decide) ?_
  refine J.istore_n hG dX7_readsItem_94 rfl (Nat.le_of_ble_eq_true rfl) ?_
  exact lp (σ 2 0).toNat 0 j σ μ (by omega) (by omega) hR hD (fun s a b => by omega) rfl rfl rfl rfl


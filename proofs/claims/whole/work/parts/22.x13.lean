theorem nl_X5_cell : CT TX md_X6_cell [aI 0, aI 0] (fun _ _ => 0) (fun rv _ => rv = some (aI (0 * 4 + 0))) ∨ True := Or.inr trivial
theorem bodyS_s (σ : Mem) : bodyS σ 115 = scaleS σ := rfl
theorem bodyS_l (σ : Mem) : bodyS σ 108 = lifeS (σ 2 0).toNat 0 σ := rfl
theorem bodyS_d (σ : Mem) : bodyS σ 100 = numS 0 9 (up σ 1 9 1) (fun a σ2 => .inr (up σ2 2 3 a)) := rfl
theorem bodyS_p (σ : Mem) : bodyS σ 112 = numS 0 60 σ (fun a σ2 => .inr (incr (up σ2 5 (σ 2 2) a) 2 2)) := rfl
theorem itemS_eq {μ : Mem} {c : Int} (hc : c = -μ 11 (μ 1 6)) (h : mayS μ c = 1) : itemS μ = bnd (bodyS (incr μ 1 6) c) semS := by
  unfold itemS
  rw [← hc, if_pos h]
theorem semS_ok {σ : Mem} (h : σ 11 (σ 1 6) = -59) : semS σ = .inr (incr (up σ 1 6 (σ 1 6 + 1)) 1 7) := by unfold semS; rw [if_pos h]
theorem semS_no {σ : Mem} (h : ¬ σ 11 (σ 1 6) = -59) : semS σ = .inl (σ 12 (σ 1 6)) := by unfold semS; rw [if_neg h]
theorem u178 (σ : Mem) (x : Int) : up σ 1 7 x 1 8 = σ 1 8 := up_ne _ (by decide)
def BadF (μ μ1 : Mem) : Prop := (∀ c : Nat, (c = 0 ∨ c = 6 ∨ 9 < c) → μ1 c = μ c) ∧ μ1 1 0 = μ 1 0 ∧ (0 ≤ μ1 1 6 ∧ μ1 1 6 ≤ 200) ∧ 0 ≤ μ1 1 8 ∧ μ1 1 8 ≤ 200
theorem BadF_of {μ ν ν1 : Mem} (h : Bad ν ν1) (x : Int) (h1 : ∀ c : Nat, (c = 0 ∨ c = 6 ∨ 9 < c) → ν c = μ c) (h2 : ν 1 0 = μ 1 0) : BadF μ (up ν1 1 7 x) := ⟨fun c hc => by rw [up_cell _ _ _ (by omega), h.1 c hc, h1 c hc], by rw [up_ne _ (by decide), h.2.1, h2], by rw [up_ne _ (by decide)]; exact h.2.2.1, by rw [up_ne _ (by decide)]; exact h.2.2.2.2⟩

set_option maxRecDepth 100000 in
set_option maxHeartbeats 4000000 in
theorem X5_readsLife (μ : Mem) (m : Nat) (hI : PI m μ) (h8 : μ 1 8 = -1) (hl : μ 2 1 < 4) : CT TX md_X5_readsLife [aR 1] μ (fun rv μ1 => rv = none ∧ ((lifeS (μ 2 0).toNat 0 μ = .inr μ1 ∧ Go m μ μ1) ∨ (lifeS (μ 2 0).toNat 0 μ = .inl (μ1 1 8) ∧ Bad μ μ1))) := by
  refine CT.of (Nat.le_of_ble_eq_true rfl) (by decide) rfl (Nat.le_of_ble_eq_true rfl) (fun X hG hX => ?_)
  have hG : G TX X RX5 cX5_readsLife 3 2 45 none := hG
  show J TX X 3 0 [some (aR 1), none, none] [] μ
  have i5 := hI.2.2.1
  have i6 := hI.2.2.2.1
  have lpb : ∀ (n : Nat) (k : Int) (ν : Mem), 0 ≤ k → k + n = ν 2 0 → Bad μ ν → ν 2 = μ 2 → ν 3 = μ 3 → lifeS (μ 2 0).toNat 0 μ = .inl (ν 1 8) → J TX X 3 2 [some (aR 1), some (aI k), none] [] ν := by
    intro n
    induction n with
    | zero =>
      intro k ν k0 k1 hb q2 q3 hr
      have e21 : ν 2 1 = μ 2 1 := by rw [q2]
      have e20 : ν 2 0 = μ 2 0 := by rw [q2]
      refine J.iload_n hG dX5_readsLife_2 rfl rfl ?_
      refine J.aload_n hG dX5_readsLife_3 rfl rfl ?_
      refine J.getR hG ciX5 rfl 1 1 rfl (Nat.le_of_ble_eq_true rfl) rfl fl_X5_18 dX5_readsLife_4 ?_
      refine J.getI hG ciX1 rfl 0 0 rfl (Nat.le_of_ble_eq_true rfl) rfl fl_X5_103 dX5_readsLife_7 ?_
      refine J.icmp_ge hG 72 dX5_readsLife_10 rfl (fun h10 => ?_) (fun h10 => absurd h10 (by omega))
      refine J.aload_n hG dX5_readsLife_72 rfl rfl ?_
      refine J.getR hG ciX5 rfl 1 1 rfl (Nat.le_of_ble_eq_true rfl) rfl fl_X5_18 dX5_readsLife_73 ?_
      refine J.dup hG dX5_readsLife_76 (fun _ => rfl) ?_
      refine J.getI hG ciX1 rfl 1 1 rfl (Nat.le_of_ble_eq_true rfl) rfl fl_X5_100 dX5_readsLife_77 ?_
      refine J.iconst hG dX5_readsLife_80 (by decide) ?_
      refine J.iadd hG dX5_readsLife_81 (fun _ _ => (by omega)) ?_
      refine J.putI hG ciX1 rfl 1 1 rfl (Nat.le_of_ble_eq_true rfl) rfl fl_X5_100 rfl rfl dX5_readsLife_82 ?_
      refine J.vret hG dX5_readsLife_85 ?_
      rw [hX]; dsimp only
      exact ⟨rfl, Or.inr ⟨by rw [u1_2]; exact hr, Bad_w hb _ _ _ (by omega)⟩⟩
    | succ n ih =>
      intro k ν k0 k1 hb q2 q3 hr
      have e21 : ν 2 1 = μ 2 1 := by rw [q2]
      have e20 : ν 2 0 = μ 2 0 := by rw [q2]
      refine J.iload_n hG dX5_readsLife_2 rfl rfl ?_
      refine J.aload_n hG dX5_readsLife_3 rfl rfl ?_
      refine J.getR hG ciX5 rfl 1 1 rfl (Nat.le_of_ble_eq_true rfl) rfl fl_X5_18 dX5_readsLife_4 ?_
      refine J.getI hG ciX1 rfl 0 0 rfl (Nat.le_of_ble_eq_true rfl) rfl fl_X5_103 dX5_readsLife_7 ?_
      refine J.icmp_ge hG 72 dX5_readsLife_10 rfl (fun h10 => absurd h10 (by omega)) (fun h10 => ?_)
      refine J.aload_n hG dX5_readsLife_13 rfl rfl ?_
      refine J.getR hG ciX5 rfl 1 1 rfl (Nat.le_of_ble_eq_true rfl) rfl fl_X5_18 dX5_readsLife_14 ?_
      refine J.getI hG ciX1 rfl 1 1 rfl (Nat.le_of_ble_eq_true rfl) rfl fl_X5_100 dX5_readsLife_17 ?_
      refine J.iload_n hG dX5_readsLife_20 rfl rfl ?_
      refine J.callSN hG (X6_cell _ _ _ (by omega) (by omega)) ok_X6_cell nl_X5_115 rfl (Nat.le_of_ble_eq_true rfl) ⟨Nat.le_of_ble_eq_true rfl, Nat.le_of_ble_eq_true rfl⟩ dX5_readsLife_21 rfl (fun r1 μ1 hp1 => ?_)
      obtain ⟨rfl, rfl⟩ := hp1
      refine J.istore_n hG dX5_readsLife_24 rfl (Nat.le_of_ble_eq_true rfl) ?_
      refine J.aload_n hG dX5_readsLife_25 rfl rfl ?_
      refine J.getR hG ciX5 rfl 2 2 rfl (Nat.le_of_ble_eq_true rfl) rfl fl_X5_25 dX5_readsLife_26 ?_
      refine J.getR hG ciX2 rfl 2 2 rfl (Nat.le_of_ble_eq_true rfl) rfl fl_X5_118 dX5_readsLife_29 ?_
      refine J.iload_n hG dX5_readsLife_32 rfl rfl ?_
      refine J.aload_n hG dX5_readsLife_33 rfl rfl ?_
      refine J.iconst hG dX5_readsLife_34 (by decide) ?_
      refine J.aload_n hG dX5_readsLife_35 rfl rfl ?_
      refine J.getR hG ciX5 rfl 1 1 rfl (Nat.le_of_ble_eq_true rfl) rfl fl_X5_18 dX5_readsLife_36 ?_
      refine J.getR hG ciX1 rfl 4 4 rfl (Nat.le_of_ble_eq_true rfl) rfl fl_X5_109 dX5_readsLife_39 ?_
      refine J.iload_n hG dX5_readsLife_42 rfl rfl ?_
      refine J.iald hG rfl (by omega) (by omega) dX5_readsLife_43 ?_
      refine J.callV hG (X5_takesNumber_b _ (by (try simp only [u1_2, u1_3, u1_4, u1_5, u1_7, u1_8, u1_9, u2_1, u2_3, u2_4, u2_5, u2_7, u2_8, u2_9, u3_1, u3_2, u3_4, u3_5, u3_7, u3_8, u3_9, u11_1, u11_2, u11_3, u11_4, u11_5, u11_7, u11_8, u11_9, u12_1, u12_2, u12_3, u12_4, u12_5, u12_7, u12_8, u12_9]); have := hb.2.2.2.2.1; omega) (by (try simp only [u1_2, u1_3, u1_4, u1_5, u1_7, u1_8, u1_9, u2_1, u2_3, u2_4, u2_5, u2_7, u2_8, u2_9, u3_1, u3_2, u3_4, u3_5, u3_7, u3_8, u3_9, u11_1, u11_2, u11_3, u11_4, u11_5, u11_7, u11_8, u11_9, u12_1, u12_2, u12_3, u12_4, u12_5, u12_7, u12_8, u12_9]); exact hb.2.2.1) _ _) ok_X5_takesNumber ml_X5_84 rfl rfl rfl rfl (Nat.le_of_ble_eq_true rfl) ⟨Nat.le_of_ble_eq_true rfl, Nat.le_of_ble_eq_true rfl⟩ dX5_readsLife_44 rfl (fun r1 νb hp1 => ?_)
      obtain ⟨rfl, rfl⟩ := hp1
      refine J.iast hG rfl (by omega) (by omega) dX5_readsLife_47 ?_
      refine J.aload_n hG dX5_readsLife_48 rfl rfl ?_
      refine J.getR hG ciX5 rfl 1 1 rfl (Nat.le_of_ble_eq_true rfl) rfl fl_X5_18 dX5_readsLife_49 ?_
      refine J.getR hG ciX1 rfl 5 5 rfl (Nat.le_of_ble_eq_true rfl) rfl fl_X5_121 dX5_readsLife_52 ?_
      refine J.iload_n hG dX5_readsLife_55 rfl rfl ?_
      refine J.aload_n hG dX5_readsLife_56 rfl rfl ?_
      refine J.iconst hG dX5_readsLife_57 (by decide) ?_
      refine J.bipush hG dX5_readsLife_58 (by decide) (by decide) ?_
      refine J.callV hG (X5_takesNumber_b _ (by (try simp only [u1_2, u1_3, u1_4, u1_5, u1_7, u1_8, u1_9, u2_1, u2_3, u2_4, u2_5, u2_7, u2_8, u2_9, u3_1, u3_2, u3_4, u3_5, u3_7, u3_8, u3_9, u11_1, u11_2, u11_3, u11_4, u11_5, u11_7, u11_8, u11_9, u12_1, u12_2, u12_3, u12_4, u12_5, u12_7, u12_8, u12_9]); have := hb.2.2.2.2.1; omega) (by (try simp only [u1_2, u1_3, u1_4, u1_5, u1_7, u1_8, u1_9, u2_1, u2_3, u2_4, u2_5, u2_7, u2_8, u2_9, u3_1, u3_2, u3_4, u3_5, u3_7, u3_8, u3_9, u11_1, u11_2, u11_3, u11_4, u11_5, u11_7, u11_8, u11_9, u12_1, u12_2, u12_3, u12_4, u12_5, u12_7, u12_8, u12_9]); exact hb.2.2.1) _ _) ok_X5_takesNumber ml_X5_84 rfl rfl rfl rfl (Nat.le_of_ble_eq_true rfl) ⟨Nat.le_of_ble_eq_true rfl, Nat.le_of_ble_eq_true rfl⟩ dX5_readsLife_60 rfl (fun r1 νb hp1 => ?_)
      obtain ⟨rfl, rfl⟩ := hp1
      refine J.iconst hG dX5_readsLife_63 (by decide) ?_
      refine J.isub hG dX5_readsLife_64 (fun _ _ => (by omega)) ?_
      refine J.iast hG rfl (by omega) (by omega) dX5_readsLife_65 ?_
      refine J.iinc hG dX5_readsLife_66 (Nat.le_of_ble_eq_true rfl) rfl (fun _ => (by omega)) ?_
      refine J.goto hG 2 dX5_readsLife_69 rfl ?_
      exact J.drop 2 (ih (k + 1) _ (by omega) (by rw [u2_4, u2_7]; omega) (Bad_w (Bad_w hb _ _ _ (by omega)) _ _ _ (by omega)) (by rw [u2_4, u2_7, q2]) (by rw [u3_4, u3_7, q3]) (by rw [u1_4, u1_7]; exact hr))
  have lp : ∀ (n : Nat) (k : Int) (ν : Mem), 0 ≤ k → k + n = ν 2 0 → Go m μ ν → ν 2 = μ 2 → ν 3 = μ 3 → lifeS n k ν = lifeS (μ 2 0).toNat 0 μ → J TX X 3 2 [some (aR 1), some (aI k), none] [] ν := by
    intro n
    induction n with
    | zero =>
      intro k ν k0 k1 hgo q2 q3 hr
      have e21 : ν 2 1 = μ 2 1 := by rw [q2]
      have e20 : ν 2 0 = μ 2 0 := by rw [q2]
      rw [lifeS] at hr
      refine J.iload_n hG dX5_readsLife_2 rfl rfl ?_
      refine J.aload_n hG dX5_readsLife_3 rfl rfl ?_
      refine J.getR hG ciX5 rfl 1 1 rfl (Nat.le_of_ble_eq_true rfl) rfl fl_X5_18 dX5_readsLife_4 ?_
      refine J.getI hG ciX1 rfl 0 0 rfl (Nat.le_of_ble_eq_true rfl) rfl fl_X5_103 dX5_readsLife_7 ?_
      refine J.icmp_ge hG 72 dX5_readsLife_10 rfl (fun h10 => ?_) (fun h10 => absurd h10 (by omega))
      refine J.aload_n hG dX5_readsLife_72 rfl rfl ?_
      refine J.getR hG ciX5 rfl 1 1 rfl (Nat.le_of_ble_eq_true rfl) rfl fl_X5_18 dX5_readsLife_73 ?_
      refine J.dup hG dX5_readsLife_76 (fun _ => rfl) ?_
      refine J.getI hG ciX1 rfl 1 1 rfl (Nat.le_of_ble_eq_true rfl) rfl fl_X5_100 dX5_readsLife_77 ?_
      refine J.iconst hG dX5_readsLife_80 (by decide) ?_
      refine J.iadd hG dX5_readsLife_81 (fun _ _ => (by omega)) ?_
      refine J.putI hG ciX1 rfl 1 1 rfl (Nat.le_of_ble_eq_true rfl) rfl fl_X5_100 rfl rfl dX5_readsLife_82 ?_
      refine J.vret hG dX5_readsLife_85 ?_
      rw [hX]; dsimp only
      exact ⟨rfl, Or.inl ⟨hr.symm, Go_2 hgo _ _ (PI_2 hgo.1 _ _ (fun w => absurd w (by decide)) (fun _ => by omega) (fun w => absurd w (by decide)))⟩⟩
    | succ n ih =>
      intro k ν k0 k1 hgo q2 q3 hr
      have e21 : ν 2 1 = μ 2 1 := by rw [q2]
      have e20 : ν 2 0 = μ 2 0 := by rw [q2]
      have g6 := hgo.1.2.1
      have g3 := hgo.1.1.2.2 (ν 1 6) g6.1 g6.2
      rw [lifeS] at hr
      refine J.iload_n hG dX5_readsLife_2 rfl rfl ?_
      refine J.aload_n hG dX5_readsLife_3 rfl rfl ?_
      refine J.getR hG ciX5 rfl 1 1 rfl (Nat.le_of_ble_eq_true rfl) rfl fl_X5_18 dX5_readsLife_4 ?_
      refine J.getI hG ciX1 rfl 0 0 rfl (Nat.le_of_ble_eq_true rfl) rfl fl_X5_103 dX5_readsLife_7 ?_
      refine J.icmp_ge hG 72 dX5_readsLife_10 rfl (fun h10 => absurd h10 (by omega)) (fun h10 => ?_)
      refine J.aload_n hG dX5_readsLife_13 rfl rfl ?_
      refine J.getR hG ciX5 rfl 1 1 rfl (Nat.le_of_ble_eq_true rfl) rfl fl_X5_18 dX5_readsLife_14 ?_
      refine J.getI hG ciX1 rfl 1 1 rfl (Nat.le_of_ble_eq_true rfl) rfl fl_X5_100 dX5_readsLife_17 ?_
      refine J.iload_n hG dX5_readsLife_20 rfl rfl ?_
      refine J.callSN hG (X6_cell _ _ _ (by omega) (by omega)) ok_X6_cell nl_X5_115 rfl (Nat.le_of_ble_eq_true rfl) ⟨Nat.le_of_ble_eq_true rfl, Nat.le_of_ble_eq_true rfl⟩ dX5_readsLife_21 rfl (fun r1 μ1 hp1 => ?_)
      obtain ⟨rfl, rfl⟩ := hp1
      refine J.istore_n hG dX5_readsLife_24 rfl (Nat.le_of_ble_eq_true rfl) ?_
      refine J.aload_n hG dX5_readsLife_25 rfl rfl ?_
      refine J.getR hG ciX5 rfl 2 2 rfl (Nat.le_of_ble_eq_true rfl) rfl fl_X5_25 dX5_readsLife_26 ?_
      refine J.getR hG ciX2 rfl 2 2 rfl (Nat.le_of_ble_eq_true rfl) rfl fl_X5_118 dX5_readsLife_29 ?_
      refine J.iload_n hG dX5_readsLife_32 rfl rfl ?_
      refine J.aload_n hG dX5_readsLife_33 rfl rfl ?_
      refine J.iconst hG dX5_readsLife_34 (by decide) ?_
      refine J.aload_n hG dX5_readsLife_35 rfl rfl ?_
      refine J.getR hG ciX5 rfl 1 1 rfl (Nat.le_of_ble_eq_true rfl) rfl fl_X5_18 dX5_readsLife_36 ?_
      refine J.getR hG ciX1 rfl 4 4 rfl (Nat.le_of_ble_eq_true rfl) rfl fl_X5_109 dX5_readsLife_39 ?_
      refine J.iload_n hG dX5_readsLife_42 rfl rfl ?_
      refine J.iald hG rfl (by omega) (by omega) dX5_readsLife_43 ?_
      refine J.callV hG (X5_takesNumber _ m hgo.1 hgo.2.1 _ _ (by decide)) ok_X5_takesNumber ml_X5_84 rfl rfl rfl rfl (Nat.le_of_ble_eq_true rfl) ⟨Nat.le_of_ble_eq_true rfl, Nat.le_of_ble_eq_true rfl⟩ dX5_readsLife_44 rfl (fun r1 ν1 hp1 => ?_)
      rcases hp1 with ⟨a1, rfl, e1⟩ | ⟨a1, rfl, e1⟩
      · rw [numS_ok a1, ← e1] at hr
        obtain ⟨k1g, c1, c1r, -⟩ := Go_nx hgo (by omega) e1
        have k2 := Go_w k1g 7 (ν 2 1 * 4 + k) (ν 11 (ν 1 6)) (by omega)
        refine J.iast hG rfl (by omega) (by omega) dX5_readsLife_47 ?_
        refine J.aload_n hG dX5_readsLife_48 rfl rfl ?_
        refine J.getR hG ciX5 rfl 1 1 rfl (Nat.le_of_ble_eq_true rfl) rfl fl_X5_18 dX5_readsLife_49 ?_
        refine J.getR hG ciX1 rfl 5 5 rfl (Nat.le_of_ble_eq_true rfl) rfl fl_X5_121 dX5_readsLife_52 ?_
        refine J.iload_n hG dX5_readsLife_55 rfl rfl ?_
        refine J.aload_n hG dX5_readsLife_56 rfl rfl ?_
        refine J.iconst hG dX5_readsLife_57 (by decide) ?_
        refine J.bipush hG dX5_readsLife_58 (by decide) (by decide) ?_
        refine J.callV hG (X5_takesNumber _ m k2.1 k2.2.1 _ _ (by decide)) ok_X5_takesNumber ml_X5_84 rfl rfl rfl rfl (Nat.le_of_ble_eq_true rfl) ⟨Nat.le_of_ble_eq_true rfl, Nat.le_of_ble_eq_true rfl⟩ dX5_readsLife_60 rfl (fun r1 ν2 hp1 => ?_)
        rcases hp1 with ⟨a2, rfl, e2⟩ | ⟨a2, rfl, e2⟩
        · try dsimp only at hr
          rw [numS_ok a2, ← e2] at hr
          obtain ⟨k3, c2, c2r, -⟩ := Go_nx k2 (by omega) e2
          refine J.iconst hG dX5_readsLife_63 (by decide) ?_
          refine J.isub hG dX5_readsLife_64 (fun _ _ => (by first | omega | decide | (have := k2.1.1.2.2 _ k2.1.2.1.1 k2.1.2.1.2; omega))) ?_
          refine J.iast hG rfl (by omega) (by omega) dX5_readsLife_65 ?_
          refine J.iinc hG dX5_readsLife_66 (Nat.le_of_ble_eq_true rfl) rfl (fun _ => (by omega)) ?_
          refine J.goto hG 2 dX5_readsLife_69 rfl ?_
          exact J.drop 2 (ih (k + 1) _ (by omega) (by rw [u2_4, c2, u2_7, c1]; omega) (Go_w k3 _ _ _ (by omega)) (by rw [u2_4, c2, u2_7, c1, q2]) (by rw [u3_4, c2r, u3_7, c1r, q3]) hr)
        · try dsimp only at hr
          rw [numS_no a2] at hr
          obtain ⟨hb1, hf, c2, c2r⟩ := Go_bad k2 e2
          have hb : Bad μ ν2 := hb1
          refine J.iconst hG dX5_readsLife_63 (by decide) ?_
          refine J.isub hG dX5_readsLife_64 (fun _ _ => (by first | omega | decide | (have := k2.1.1.2.2 _ k2.1.2.1.1 k2.1.2.1.2; omega))) ?_
          refine J.iast hG rfl (by omega) (by omega) dX5_readsLife_65 ?_
          refine J.iinc hG dX5_readsLife_66 (Nat.le_of_ble_eq_true rfl) rfl (fun _ => (by omega)) ?_
          refine J.goto hG 2 dX5_readsLife_69 rfl ?_
          exact J.drop 2 (lpb n (k + 1) _ (by omega) (by rw [u2_4, c2, u2_7, c1]; omega) (Bad_w hb _ _ _ (by omega)) (by rw [u2_4, c2, u2_7, c1, q2]) (by rw [u3_4, c2r, u3_7, c1r, q3]) (by rw [u1_4, hf]; exact hr.symm))
      · rw [numS_no a1] at hr
        obtain ⟨hb1, hf, c1, c1r⟩ := Go_bad hgo e1
        have hb : Bad μ ν1 := hb1
        refine J.iast hG rfl (by omega) (by omega) dX5_readsLife_47 ?_
        refine J.aload_n hG dX5_readsLife_48 rfl rfl ?_
        refine J.getR hG ciX5 rfl 1 1 rfl (Nat.le_of_ble_eq_true rfl) rfl fl_X5_18 dX5_readsLife_49 ?_
        refine J.getR hG ciX1 rfl 5 5 rfl (Nat.le_of_ble_eq_true rfl) rfl fl_X5_121 dX5_readsLife_52 ?_
        refine J.iload_n hG dX5_readsLife_55 rfl rfl ?_
        refine J.aload_n hG dX5_readsLife_56 rfl rfl ?_
        refine J.iconst hG dX5_readsLife_57 (by decide) ?_
        refine J.bipush hG dX5_readsLife_58 (by decide) (by decide) ?_
        refine J.callV hG (X5_takesNumber_b _ (by (try simp only [u1_2, u1_3, u1_4, u1_5, u1_7, u1_8, u1_9, u2_1, u2_3, u2_4, u2_5, u2_7, u2_8, u2_9, u3_1, u3_2, u3_4, u3_5, u3_7, u3_8, u3_9, u11_1, u11_2, u11_3, u11_4, u11_5, u11_7, u11_8, u11_9, u12_1, u12_2, u12_3, u12_4, u12_5, u12_7, u12_8, u12_9]); have := hb.2.2.2.2.1; omega) (by (try simp only [u1_2, u1_3, u1_4, u1_5, u1_7, u1_8, u1_9, u2_1, u2_3, u2_4, u2_5, u2_7, u2_8, u2_9, u3_1, u3_2, u3_4, u3_5, u3_7, u3_8, u3_9, u11_1, u11_2, u11_3, u11_4, u11_5, u11_7, u11_8, u11_9, u12_1, u12_2, u12_3, u12_4, u12_5, u12_7, u12_8, u12_9]); exact hb.2.2.1) _ _) ok_X5_takesNumber ml_X5_84 rfl rfl rfl rfl (Nat.le_of_ble_eq_true rfl) ⟨Nat.le_of_ble_eq_true rfl, Nat.le_of_ble_eq_true rfl⟩ dX5_readsLife_60 rfl (fun r1 νb hp1 => ?_)
        obtain ⟨rfl, rfl⟩ := hp1
        refine J.iconst hG dX5_readsLife_63 (by decide) ?_
        refine J.isub hG dX5_readsLife_64 (fun _ _ => (by first | omega | decide | (have := k2.1.1.2.2 _ k2.1.2.1.1 k2.1.2.1.2; omega))) ?_
        refine J.iast hG rfl (by omega) (by omega) dX5_readsLife_65 ?_
        refine J.iinc hG dX5_readsLife_66 (Nat.le_of_ble_eq_true rfl) rfl (fun _ => (by omega)) ?_
        refine J.goto hG 2 dX5_readsLife_69 rfl ?_
        exact J.drop 2 (lpb n (k + 1) _ (by omega) (by rw [u2_4, u2_7, c1]; omega) (Bad_w (Bad_w hb _ _ _ (by omega)) _ _ _ (by omega)) (by rw [u2_4, u2_7, c1, q2]) (by rw [u3_4, u3_7, c1r, q3]) (by rw [u1_4, u1_7, hf]; exact hr.symm))
  refine J.iconst hG dX5_readsLife_0 (by decide) ?_
  refine J.istore_n hG dX5_readsLife_1 rfl (Nat.le_of_ble_eq_true rfl) ?_
  exact lp (μ 2 0).toNat 0 μ (Int.le_refl _) (by omega) (Go_0 hI h8) rfl rfl rfl

set_option maxRecDepth 100000 in
set_option maxHeartbeats 4000000 in
theorem X5_readsItem (μ : Mem) (m : Nat) (hI : PI m μ) (h8 : μ 1 8 = -1) (h7 : 0 ≤ μ 1 7 ∧ μ 1 7 ≤ 1000) : CT TX md_X5_readsItem [aR 1] μ (fun rv μ1 => rv = none ∧ ((itemS μ = .inr μ1 ∧ PI m μ1 ∧ μ1 1 8 = -1 ∧ μ1 1 7 = μ 1 7 + 1 ∧ (∀ c : Nat, (c = 0 ∨ c = 6 ∨ 9 < c) → μ1 c = μ c) ∧ μ1 1 0 = μ 1 0) ∨ (itemS μ = .inl (μ1 1 8) ∧ BadF μ μ1))) := by
  refine CT.of (Nat.le_of_ble_eq_true rfl) (by decide) rfl (Nat.le_of_ble_eq_true rfl) (fun X hG hX => ?_)
  have hG : G TX X RX5 cX5_readsItem 2 3 67 none := hG
  show J TX X 2 0 [some (aR 1), none] [] μ
  have hI2 := hI
  obtain ⟨⟨g1, g2, g3⟩, g4, g5, g6, g7, g8, g9⟩ := hI2
  have ge0 := g3 (μ 1 6) g4.1 g4.2
  have k0 := Go_0 hI h8
  obtain ⟨c, hcq⟩ : ∃ c, c = -μ 11 (μ 1 6) := ⟨_, rfl⟩
  refine J.aload_n hG dX5_readsItem_0 rfl rfl ?_
  refine J.getR hG ciX5 rfl 4 4 rfl (Nat.le_of_ble_eq_true rfl) rfl fl_X5_33 dX5_readsItem_1 ?_
  refine J.aload_n hG dX5_readsItem_4 rfl rfl ?_
  refine J.getI hG ciX5 rfl 6 6 rfl (Nat.le_of_ble_eq_true rfl) rfl fl_X5_39 dX5_readsItem_5 ?_
  refine J.iald hG rfl (by omega) (by omega) dX5_readsItem_8 ?_
  refine J.ineg hG dX5_readsItem_9 (fun _ => (by omega)) ?_
  rw [← hcq]
  refine J.istore_n hG dX5_readsItem_10 rfl (Nat.le_of_ble_eq_true rfl) ?_
  refine J.aload_n hG dX5_readsItem_11 rfl rfl ?_
  refine J.iload_n hG dX5_readsItem_12 rfl rfl ?_
  refine J.callV hG (X5_mayBegin _ _) ok_X5_mayBegin ml_X5_75 rfl rfl rfl rfl (Nat.le_of_ble_eq_true rfl) ⟨Nat.le_of_ble_eq_true rfl, Nat.le_of_ble_eq_true rfl⟩ dX5_readsItem_13 rfl (fun r1 μ1 hp1 => ?_)
  obtain ⟨rfl, rfl⟩ := hp1
  refine J.ifb_ne hG 33 dX5_readsItem_16 rfl (fun h16 => ?_) (fun h16 => ?_)
  · have hc4 : (c = 100 ∧ μ 1 9 = 0) ∨ (c = 108 ∧ μ 2 1 < 4) ∨ (c = 115 ∧ μ 2 0 < 4) ∨ (c = 112 ∧ μ 2 2 < 8) := by
      have h9 := h16
      unfold mayS at h9
      (repeat' split at h9) <;> omega
    obtain ⟨k1, c1, c1r, c19⟩ := Go_nx (ν1 := up μ 1 6 (μ 1 6 + 1)) k0 (by omega) rfl
    have hsp := itemS_eq hcq h16
    have e17 : up μ 1 6 (μ 1 6 + 1) 1 7 = μ 1 7 := up_ne _ (by decide)
    refine J.aload_n hG dX5_readsItem_33 rfl rfl ?_
    refine J.dup hG dX5_readsItem_34 (fun _ => rfl) ?_
    refine J.getI hG ciX5 rfl 6 6 rfl (Nat.le_of_ble_eq_true rfl) rfl fl_X5_39 dX5_readsItem_35 ?_
    refine J.iconst hG dX5_readsItem_38 (by decide) ?_
    refine J.iadd hG dX5_readsItem_39 (fun _ _ => (by omega)) ?_
    refine J.putI hG ciX5 rfl 6 6 rfl (Nat.le_of_ble_eq_true rfl) rfl fl_X5_39 rfl rfl dX5_readsItem_40 ?_
    refine J.iload_n hG dX5_readsItem_43 rfl rfl ?_
    rcases (show c = 100 ∨ c = 108 ∨ c = 115 ∨ c = 112 by omega) with rfl | rfl | rfl | rfl
    · refine J.lookup hG 94 dX5_readsItem_44 (by decide) (off := 50) (by decide) rfl ?_
      have kd : Go m μ (up (up μ 1 6 (μ 1 6 + 1)) 1 9 1) := ⟨PI_1 k1.1 _ _ (fun w => absurd w (by decide)) (fun _ => Or.inr rfl), by rw [up_ne _ (by decide)]; exact k1.2.1, by rw [up_ne _ (by decide)]; exact k1.2.2.1, fun d hd => by rw [up_cell _ _ _ (by omega)]; exact k1.2.2.2.1 d hd, by rw [up_ne _ (by decide)]; exact k1.2.2.2.2⟩
      refine J.aload_n hG dX5_readsItem_94 rfl rfl ?_
      refine J.iconst hG dX5_readsItem_95 (by decide) ?_
      refine J.putZ hG ciX5 rfl 9 9 rfl (Nat.le_of_ble_eq_true rfl) (by first | exact Or.inl rfl | exact Or.inr rfl) rfl fl_X5_48 rfl rfl dX5_readsItem_96 ?_
      refine J.aload_n hG dX5_readsItem_99 rfl rfl ?_
      refine J.getR hG ciX5 rfl 1 1 rfl (Nat.le_of_ble_eq_true rfl) rfl fl_X5_18 dX5_readsItem_100 ?_
      refine J.aload_n hG dX5_readsItem_103 rfl rfl ?_
      refine J.iconst hG dX5_readsItem_104 (by decide) ?_
      refine J.bipush hG dX5_readsItem_105 (by decide) (by decide) ?_
      refine J.callV hG (X5_takesNumber _ m kd.1 kd.2.1 _ _ (by decide)) ok_X5_takesNumber ml_X5_84 rfl rfl rfl rfl (Nat.le_of_ble_eq_true rfl) ⟨Nat.le_of_ble_eq_true rfl, Nat.le_of_ble_eq_true rfl⟩ dX5_readsItem_107 rfl (fun r1 ν2 hp1 => ?_)
      rcases hp1 with ⟨a1, rfl, e1⟩ | ⟨a1, rfl, e1⟩
      · obtain ⟨kx, c2, c2r, -⟩ := Go_nx kd (by omega) e1
        have kz := Go_2 kx 3 (up (up μ 1 6 (μ 1 6 + 1)) 1 9 1 11 (up (up μ 1 6 (μ 1 6 + 1)) 1 9 1 1 6)) (PI_2 kx.1 _ _ (fun w => absurd w (by decide)) (fun w => absurd w (by decide)) (fun w => absurd w (by decide)))
        refine J.putI hG ciX1 rfl 3 3 rfl (Nat.le_of_ble_eq_true rfl) rfl fl_X5_88 rfl rfl dX5_readsItem_110 ?_
        refine J.goto hG 151 dX5_readsItem_113 rfl ?_
        refine J.aload_n hG dX5_readsItem_151 rfl rfl ?_
        refine J.callV hG (X5_takesSemicolon _ m kz.1 kz.2.1) ok_X5_takesSemicolon ml_X5_97 rfl rfl rfl rfl (Nat.le_of_ble_eq_true rfl) ⟨Nat.le_of_ble_eq_true rfl, Nat.le_of_ble_eq_true rfl⟩ dX5_readsItem_152 rfl (fun r1 νs hp1 => ?_)
        rcases hp1 with ⟨b1, rfl, f1⟩ | ⟨b1, rfl, f1⟩
        · obtain ⟨k9, -, -, -⟩ := Go_nx kz (by omega) f1
          refine J.aload_n hG dX5_readsItem_155 rfl rfl ?_
          refine J.dup hG dX5_readsItem_156 (fun _ => rfl) ?_
          refine J.getI hG ciX5 rfl 7 7 rfl (Nat.le_of_ble_eq_true rfl) rfl fl_X5_42 dX5_readsItem_157 ?_
          refine J.iconst hG dX5_readsItem_160 (by decide) ?_
          refine J.iadd hG dX5_readsItem_161 (fun _ _ => (by first | omega | (have := k9.2.2.1; omega) | ((try simp only [u1_2, u1_3, u1_4, u1_5, u1_7, u1_8, u1_9, u2_1, u2_3, u2_4, u2_5, u2_7, u2_8, u2_9, u3_1, u3_2, u3_4, u3_5, u3_7, u3_8, u3_9, u11_1, u11_2, u11_3, u11_4, u11_5, u11_7, u11_8, u11_9, u12_1, u12_2, u12_3, u12_4, u12_5, u12_7, u12_8, u12_9]); have := hb.2.2.2.1; omega))) ?_
          refine J.putI hG ciX5 rfl 7 7 rfl (Nat.le_of_ble_eq_true rfl) rfl fl_X5_42 rfl rfl dX5_readsItem_162 ?_
          refine J.vret hG dX5_readsItem_165 ?_
          rw [hX]; dsimp only
          rw [bodyS_d] at hsp
          rw [numS_ok (σ := up (incr μ 1 6) 1 9 1) a1] at hsp
          try dsimp only at hsp
          rw [← (show ν2 = up (up (incr μ 1 6) 1 9 1) 1 6 (up (incr μ 1 6) 1 9 1 1 6 + 1) from e1)] at hsp
          have hsp2 : itemS μ = semS _ := hsp
          refine ⟨rfl, Or.inl ⟨?_, PI_1 k9.1 _ _ (fun w => absurd w (by decide)) (fun w => absurd w (by decide)), by rw [up_ne _ (by decide)]; exact k9.2.1, by rw [up_self, k9.2.2.1], (fun d hd => by rw [up_cell _ _ _ (by omega), k9.2.2.2.1 d hd]), by rw [up_ne _ (by decide), k9.2.2.2.2]⟩⟩
          rw [hsp2, semS_ok (by exact b1), f1]
          rfl
        · obtain ⟨hb, hf, -, -⟩ := Go_bad kz f1
          refine J.aload_n hG dX5_readsItem_155 rfl rfl ?_
          refine J.dup hG dX5_readsItem_156 (fun _ => rfl) ?_
          refine J.getI hG ciX5 rfl 7 7 rfl (Nat.le_of_ble_eq_true rfl) rfl fl_X5_42 dX5_readsItem_157 ?_
          refine J.iconst hG dX5_readsItem_160 (by decide) ?_
          refine J.iadd hG dX5_readsItem_161 (fun _ _ => (by first | omega | (have := k9.2.2.1; omega) | ((try simp only [u1_2, u1_3, u1_4, u1_5, u1_7, u1_8, u1_9, u2_1, u2_3, u2_4, u2_5, u2_7, u2_8, u2_9, u3_1, u3_2, u3_4, u3_5, u3_7, u3_8, u3_9, u11_1, u11_2, u11_3, u11_4, u11_5, u11_7, u11_8, u11_9, u12_1, u12_2, u12_3, u12_4, u12_5, u12_7, u12_8, u12_9]); have := hb.2.2.2.1; omega))) ?_
          refine J.putI hG ciX5 rfl 7 7 rfl (Nat.le_of_ble_eq_true rfl) rfl fl_X5_42 rfl rfl dX5_readsItem_162 ?_
          refine J.vret hG dX5_readsItem_165 ?_
          rw [hX]; dsimp only
          rw [bodyS_d] at hsp
          rw [numS_ok (σ := up (incr μ 1 6) 1 9 1) a1] at hsp
          try dsimp only at hsp
          rw [← (show ν2 = up (up (incr μ 1 6) 1 9 1) 1 6 (up (incr μ 1 6) 1 9 1 1 6 + 1) from e1)] at hsp
          have hsp2 : itemS μ = semS _ := hsp
          refine ⟨rfl, Or.inr ⟨?_, BadF_of hb _ (fun _ _ => rfl) rfl⟩⟩
          rw [hsp2, semS_no (by exact b1), u178, hf]
          rfl
      · obtain ⟨hb, hf, c2, c2r⟩ := Go_bad kd e1
        refine J.putI hG ciX1 rfl 3 3 rfl (Nat.le_of_ble_eq_true rfl) rfl fl_X5_88 rfl rfl dX5_readsItem_110 ?_
        refine J.goto hG 151 dX5_readsItem_113 rfl ?_
        refine J.aload_n hG dX5_readsItem_151 rfl rfl ?_
        refine J.callV hG (X5_takesSemicolon_b _ (by (try simp only [u1_2, u1_3, u1_4, u1_5, u1_7, u1_8, u1_9, u2_1, u2_3, u2_4, u2_5, u2_7, u2_8, u2_9, u3_1, u3_2, u3_4, u3_5, u3_7, u3_8, u3_9, u11_1, u11_2, u11_3, u11_4, u11_5, u11_7, u11_8, u11_9, u12_1, u12_2, u12_3, u12_4, u12_5, u12_7, u12_8, u12_9]); have := hb.2.2.2.2.1; omega) (by (try simp only [u1_2, u1_3, u1_4, u1_5, u1_7, u1_8, u1_9, u2_1, u2_3, u2_4, u2_5, u2_7, u2_8, u2_9, u3_1, u3_2, u3_4, u3_5, u3_7, u3_8, u3_9, u11_1, u11_2, u11_3, u11_4, u11_5, u11_7, u11_8, u11_9, u12_1, u12_2, u12_3, u12_4, u12_5, u12_7, u12_8, u12_9]); exact hb.2.2.1)) ok_X5_takesSemicolon ml_X5_97 rfl rfl rfl rfl (Nat.le_of_ble_eq_true rfl) ⟨Nat.le_of_ble_eq_true rfl, Nat.le_of_ble_eq_true rfl⟩ dX5_readsItem_152 rfl (fun r1 νs hp1 => ?_)
        obtain ⟨rfl, rfl⟩ := hp1
        refine J.aload_n hG dX5_readsItem_155 rfl rfl ?_
        refine J.dup hG dX5_readsItem_156 (fun _ => rfl) ?_
        refine J.getI hG ciX5 rfl 7 7 rfl (Nat.le_of_ble_eq_true rfl) rfl fl_X5_42 dX5_readsItem_157 ?_
        refine J.iconst hG dX5_readsItem_160 (by decide) ?_
        refine J.iadd hG dX5_readsItem_161 (fun _ _ => (by first | omega | (have := k9.2.2.1; omega) | ((try simp only [u1_2, u1_3, u1_4, u1_5, u1_7, u1_8, u1_9, u2_1, u2_3, u2_4, u2_5, u2_7, u2_8, u2_9, u3_1, u3_2, u3_4, u3_5, u3_7, u3_8, u3_9, u11_1, u11_2, u11_3, u11_4, u11_5, u11_7, u11_8, u11_9, u12_1, u12_2, u12_3, u12_4, u12_5, u12_7, u12_8, u12_9]); have := hb.2.2.2.1; omega))) ?_
        refine J.putI hG ciX5 rfl 7 7 rfl (Nat.le_of_ble_eq_true rfl) rfl fl_X5_42 rfl rfl dX5_readsItem_162 ?_
        refine J.vret hG dX5_readsItem_165 ?_
        rw [hX]; dsimp only
        rw [bodyS_d] at hsp
        rw [numS_no (σ := up (incr μ 1 6) 1 9 1) a1] at hsp
        exact ⟨rfl, Or.inr ⟨by rw [hsp, u178]; (try simp only [u1_2, u1_3, u1_4, u1_5, u1_7, u1_8, u1_9, u2_1, u2_3, u2_4, u2_5, u2_7, u2_8, u2_9, u3_1, u3_2, u3_4, u3_5, u3_7, u3_8, u3_9, u11_1, u11_2, u11_3, u11_4, u11_5, u11_7, u11_8, u11_9, u12_1, u12_2, u12_3, u12_4, u12_5, u12_7, u12_8, u12_9]); rw [hf]; (try simp only [u1_2, u1_3, u1_4, u1_5, u1_7, u1_8, u1_9, u2_1, u2_3, u2_4, u2_5, u2_7, u2_8, u2_9, u3_1, u3_2, u3_4, u3_5, u3_7, u3_8, u3_9, u11_1, u11_2, u11_3, u11_4, u11_5, u11_7, u11_8, u11_9, u12_1, u12_2, u12_3, u12_4, u12_5, u12_7, u12_8, u12_9]); rfl, BadF_of (Bad_w hb _ _ _ (by omega)) _ (fun _ _ => rfl) rfl⟩⟩
    · refine J.lookup hG 87 dX5_readsItem_44 (by decide) (off := 43) (by decide) rfl ?_
      refine J.aload_n hG dX5_readsItem_87 rfl rfl ?_
      refine J.callV hG (X5_readsLife _ m k1.1 k1.2.1 (by rw [c1]; omega)) ok_X5_readsLife ml_X5_81 rfl rfl rfl rfl (Nat.le_of_ble_eq_true rfl) ⟨Nat.le_of_ble_eq_true rfl, Nat.le_of_ble_eq_true rfl⟩ dX5_readsItem_88 rfl (fun r1 ν2 hp1 => ?_)
      rcases hp1 with ⟨rfl, ⟨hs, kz⟩ | ⟨hs, hb⟩⟩
      · refine J.goto hG 151 dX5_readsItem_91 rfl ?_
        refine J.aload_n hG dX5_readsItem_151 rfl rfl ?_
        refine J.callV hG (X5_takesSemicolon _ m kz.1 kz.2.1) ok_X5_takesSemicolon ml_X5_97 rfl rfl rfl rfl (Nat.le_of_ble_eq_true rfl) ⟨Nat.le_of_ble_eq_true rfl, Nat.le_of_ble_eq_true rfl⟩ dX5_readsItem_152 rfl (fun r1 νs hp1 => ?_)
        rcases hp1 with ⟨b1, rfl, f1⟩ | ⟨b1, rfl, f1⟩
        · obtain ⟨k9, -, -, -⟩ := Go_nx kz (by omega) f1
          refine J.aload_n hG dX5_readsItem_155 rfl rfl ?_
          refine J.dup hG dX5_readsItem_156 (fun _ => rfl) ?_
          refine J.getI hG ciX5 rfl 7 7 rfl (Nat.le_of_ble_eq_true rfl) rfl fl_X5_42 dX5_readsItem_157 ?_
          refine J.iconst hG dX5_readsItem_160 (by decide) ?_
          refine J.iadd hG dX5_readsItem_161 (fun _ _ => (by first | omega | (have := k9.2.2.1; omega) | ((try simp only [u1_2, u1_3, u1_4, u1_5, u1_7, u1_8, u1_9, u2_1, u2_3, u2_4, u2_5, u2_7, u2_8, u2_9, u3_1, u3_2, u3_4, u3_5, u3_7, u3_8, u3_9, u11_1, u11_2, u11_3, u11_4, u11_5, u11_7, u11_8, u11_9, u12_1, u12_2, u12_3, u12_4, u12_5, u12_7, u12_8, u12_9]); have := hb.2.2.2.1; omega))) ?_
          refine J.putI hG ciX5 rfl 7 7 rfl (Nat.le_of_ble_eq_true rfl) rfl fl_X5_42 rfl rfl dX5_readsItem_162 ?_
          refine J.vret hG dX5_readsItem_165 ?_
          rw [hX]; dsimp only
          rw [bodyS_l] at hsp
          have hs2 : lifeS ((incr μ 1 6) 2 0).toNat 0 (incr μ 1 6) = _ := hs
          rw [hs2] at hsp
          have hsp2 : itemS μ = semS _ := hsp
          refine ⟨rfl, Or.inl ⟨?_, PI_1 k9.1 _ _ (fun w => absurd w (by decide)) (fun w => absurd w (by decide)), by rw [up_ne _ (by decide)]; exact k9.2.1, by rw [up_self, k9.2.2.1]; rw [e17], (fun d hd => by rw [up_cell _ _ _ (by omega), k9.2.2.2.1 d hd, k1.2.2.2.1 d hd]), by rw [up_ne _ (by decide), k9.2.2.2.2, k1.2.2.2.2]⟩⟩
          rw [hsp2, semS_ok (by exact b1), f1]
          rfl
        · obtain ⟨hb, hf, -, -⟩ := Go_bad kz f1
          refine J.aload_n hG dX5_readsItem_155 rfl rfl ?_
          refine J.dup hG dX5_readsItem_156 (fun _ => rfl) ?_
          refine J.getI hG ciX5 rfl 7 7 rfl (Nat.le_of_ble_eq_true rfl) rfl fl_X5_42 dX5_readsItem_157 ?_
          refine J.iconst hG dX5_readsItem_160 (by decide) ?_
          refine J.iadd hG dX5_readsItem_161 (fun _ _ => (by first | omega | (have := k9.2.2.1; omega) | ((try simp only [u1_2, u1_3, u1_4, u1_5, u1_7, u1_8, u1_9, u2_1, u2_3, u2_4, u2_5, u2_7, u2_8, u2_9, u3_1, u3_2, u3_4, u3_5, u3_7, u3_8, u3_9, u11_1, u11_2, u11_3, u11_4, u11_5, u11_7, u11_8, u11_9, u12_1, u12_2, u12_3, u12_4, u12_5, u12_7, u12_8, u12_9]); have := hb.2.2.2.1; omega))) ?_
          refine J.putI hG ciX5 rfl 7 7 rfl (Nat.le_of_ble_eq_true rfl) rfl fl_X5_42 rfl rfl dX5_readsItem_162 ?_
          refine J.vret hG dX5_readsItem_165 ?_
          rw [hX]; dsimp only
          rw [bodyS_l] at hsp
          have hs2 : lifeS ((incr μ 1 6) 2 0).toNat 0 (incr μ 1 6) = _ := hs
          rw [hs2] at hsp
          have hsp2 : itemS μ = semS _ := hsp
          rw [semS_no b1] at hsp2
          exact ⟨rfl, Or.inr ⟨by rw [hsp2, u178, hf], BadF_of hb _ k1.2.2.2.1 k1.2.2.2.2⟩⟩
      · refine J.goto hG 151 dX5_readsItem_91 rfl ?_
        refine J.aload_n hG dX5_readsItem_151 rfl rfl ?_
        refine J.callV hG (X5_takesSemicolon_b _ (by (try simp only [u1_2, u1_3, u1_4, u1_5, u1_7, u1_8, u1_9, u2_1, u2_3, u2_4, u2_5, u2_7, u2_8, u2_9, u3_1, u3_2, u3_4, u3_5, u3_7, u3_8, u3_9, u11_1, u11_2, u11_3, u11_4, u11_5, u11_7, u11_8, u11_9, u12_1, u12_2, u12_3, u12_4, u12_5, u12_7, u12_8, u12_9]); have := hb.2.2.2.2.1; omega) (by (try simp only [u1_2, u1_3, u1_4, u1_5, u1_7, u1_8, u1_9, u2_1, u2_3, u2_4, u2_5, u2_7, u2_8, u2_9, u3_1, u3_2, u3_4, u3_5, u3_7, u3_8, u3_9, u11_1, u11_2, u11_3, u11_4, u11_5, u11_7, u11_8, u11_9, u12_1, u12_2, u12_3, u12_4, u12_5, u12_7, u12_8, u12_9]); exact hb.2.2.1)) ok_X5_takesSemicolon ml_X5_97 rfl rfl rfl rfl (Nat.le_of_ble_eq_true rfl) ⟨Nat.le_of_ble_eq_true rfl, Nat.le_of_ble_eq_true rfl⟩ dX5_readsItem_152 rfl (fun r1 νs hp1 => ?_)
        obtain ⟨rfl, rfl⟩ := hp1
        refine J.aload_n hG dX5_readsItem_155 rfl rfl ?_
        refine J.dup hG dX5_readsItem_156 (fun _ => rfl) ?_
        refine J.getI hG ciX5 rfl 7 7 rfl (Nat.le_of_ble_eq_true rfl) rfl fl_X5_42 dX5_readsItem_157 ?_
        refine J.iconst hG dX5_readsItem_160 (by decide) ?_
        refine J.iadd hG dX5_readsItem_161 (fun _ _ => (by first | omega | (have := k9.2.2.1; omega) | ((try simp only [u1_2, u1_3, u1_4, u1_5, u1_7, u1_8, u1_9, u2_1, u2_3, u2_4, u2_5, u2_7, u2_8, u2_9, u3_1, u3_2, u3_4, u3_5, u3_7, u3_8, u3_9, u11_1, u11_2, u11_3, u11_4, u11_5, u11_7, u11_8, u11_9, u12_1, u12_2, u12_3, u12_4, u12_5, u12_7, u12_8, u12_9]); have := hb.2.2.2.1; omega))) ?_
        refine J.putI hG ciX5 rfl 7 7 rfl (Nat.le_of_ble_eq_true rfl) rfl fl_X5_42 rfl rfl dX5_readsItem_162 ?_
        refine J.vret hG dX5_readsItem_165 ?_
        rw [hX]; dsimp only
        rw [bodyS_l] at hsp
        have hs2 : lifeS ((incr μ 1 6) 2 0).toNat 0 (incr μ 1 6) = _ := hs
        rw [hs2] at hsp
        exact ⟨rfl, Or.inr ⟨by rw [hsp, u178]; rfl, BadF_of hb _ k1.2.2.2.1 k1.2.2.2.2⟩⟩
    · refine J.lookup hG 80 dX5_readsItem_44 (by decide) (off := 36) (by decide) rfl ?_
      refine J.aload_n hG dX5_readsItem_80 rfl rfl ?_
      refine J.callV hG (X5_readsScale _ m k1.1 k1.2.1 (by rw [c1]; omega)) ok_X5_readsScale ml_X5_78 rfl rfl rfl rfl (Nat.le_of_ble_eq_true rfl) ⟨Nat.le_of_ble_eq_true rfl, Nat.le_of_ble_eq_true rfl⟩ dX5_readsItem_81 rfl (fun r1 ν2 hp1 => ?_)
      rcases hp1 with ⟨rfl, ⟨hs, kz⟩ | ⟨hs, hb⟩⟩
      · refine J.goto hG 151 dX5_readsItem_84 rfl ?_
        refine J.aload_n hG dX5_readsItem_151 rfl rfl ?_
        refine J.callV hG (X5_takesSemicolon _ m kz.1 kz.2.1) ok_X5_takesSemicolon ml_X5_97 rfl rfl rfl rfl (Nat.le_of_ble_eq_true rfl) ⟨Nat.le_of_ble_eq_true rfl, Nat.le_of_ble_eq_true rfl⟩ dX5_readsItem_152 rfl (fun r1 νs hp1 => ?_)
        rcases hp1 with ⟨b1, rfl, f1⟩ | ⟨b1, rfl, f1⟩
        · obtain ⟨k9, -, -, -⟩ := Go_nx kz (by omega) f1
          refine J.aload_n hG dX5_readsItem_155 rfl rfl ?_
          refine J.dup hG dX5_readsItem_156 (fun _ => rfl) ?_
          refine J.getI hG ciX5 rfl 7 7 rfl (Nat.le_of_ble_eq_true rfl) rfl fl_X5_42 dX5_readsItem_157 ?_
          refine J.iconst hG dX5_readsItem_160 (by decide) ?_
          refine J.iadd hG dX5_readsItem_161 (fun _ _ => (by first | omega | (have := k9.2.2.1; omega) | ((try simp only [u1_2, u1_3, u1_4, u1_5, u1_7, u1_8, u1_9, u2_1, u2_3, u2_4, u2_5, u2_7, u2_8, u2_9, u3_1, u3_2, u3_4, u3_5, u3_7, u3_8, u3_9, u11_1, u11_2, u11_3, u11_4, u11_5, u11_7, u11_8, u11_9, u12_1, u12_2, u12_3, u12_4, u12_5, u12_7, u12_8, u12_9]); have := hb.2.2.2.1; omega))) ?_
          refine J.putI hG ciX5 rfl 7 7 rfl (Nat.le_of_ble_eq_true rfl) rfl fl_X5_42 rfl rfl dX5_readsItem_162 ?_
          refine J.vret hG dX5_readsItem_165 ?_
          rw [hX]; dsimp only
          rw [bodyS_s] at hsp
          have hs2 : scaleS (incr μ 1 6) = _ := hs
          rw [hs2] at hsp
          have hsp2 : itemS μ = semS _ := hsp
          refine ⟨rfl, Or.inl ⟨?_, PI_1 k9.1 _ _ (fun w => absurd w (by decide)) (fun w => absurd w (by decide)), by rw [up_ne _ (by decide)]; exact k9.2.1, by rw [up_self, k9.2.2.1]; rw [e17], (fun d hd => by rw [up_cell _ _ _ (by omega), k9.2.2.2.1 d hd, k1.2.2.2.1 d hd]), by rw [up_ne _ (by decide), k9.2.2.2.2, k1.2.2.2.2]⟩⟩
          rw [hsp2, semS_ok (by exact b1), f1]
          rfl
        · obtain ⟨hb, hf, -, -⟩ := Go_bad kz f1
          refine J.aload_n hG dX5_readsItem_155 rfl rfl ?_
          refine J.dup hG dX5_readsItem_156 (fun _ => rfl) ?_
          refine J.getI hG ciX5 rfl 7 7 rfl (Nat.le_of_ble_eq_true rfl) rfl fl_X5_42 dX5_readsItem_157 ?_
          refine J.iconst hG dX5_readsItem_160 (by decide) ?_
          refine J.iadd hG dX5_readsItem_161 (fun _ _ => (by first | omega | (have := k9.2.2.1; omega) | ((try simp only [u1_2, u1_3, u1_4, u1_5, u1_7, u1_8, u1_9, u2_1, u2_3, u2_4, u2_5, u2_7, u2_8, u2_9, u3_1, u3_2, u3_4, u3_5, u3_7, u3_8, u3_9, u11_1, u11_2, u11_3, u11_4, u11_5, u11_7, u11_8, u11_9, u12_1, u12_2, u12_3, u12_4, u12_5, u12_7, u12_8, u12_9]); have := hb.2.2.2.1; omega))) ?_
          refine J.putI hG ciX5 rfl 7 7 rfl (Nat.le_of_ble_eq_true rfl) rfl fl_X5_42 rfl rfl dX5_readsItem_162 ?_
          refine J.vret hG dX5_readsItem_165 ?_
          rw [hX]; dsimp only
          rw [bodyS_s] at hsp
          have hs2 : scaleS (incr μ 1 6) = _ := hs
          rw [hs2] at hsp
          have hsp2 : itemS μ = semS _ := hsp
          rw [semS_no b1] at hsp2
          exact ⟨rfl, Or.inr ⟨by rw [hsp2, u178, hf], BadF_of hb _ k1.2.2.2.1 k1.2.2.2.2⟩⟩
      · refine J.goto hG 151 dX5_readsItem_84 rfl ?_
        refine J.aload_n hG dX5_readsItem_151 rfl rfl ?_
        refine J.callV hG (X5_takesSemicolon_b _ (by (try simp only [u1_2, u1_3, u1_4, u1_5, u1_7, u1_8, u1_9, u2_1, u2_3, u2_4, u2_5, u2_7, u2_8, u2_9, u3_1, u3_2, u3_4, u3_5, u3_7, u3_8, u3_9, u11_1, u11_2, u11_3, u11_4, u11_5, u11_7, u11_8, u11_9, u12_1, u12_2, u12_3, u12_4, u12_5, u12_7, u12_8, u12_9]); have := hb.2.2.2.2.1; omega) (by (try simp only [u1_2, u1_3, u1_4, u1_5, u1_7, u1_8, u1_9, u2_1, u2_3, u2_4, u2_5, u2_7, u2_8, u2_9, u3_1, u3_2, u3_4, u3_5, u3_7, u3_8, u3_9, u11_1, u11_2, u11_3, u11_4, u11_5, u11_7, u11_8, u11_9, u12_1, u12_2, u12_3, u12_4, u12_5, u12_7, u12_8, u12_9]); exact hb.2.2.1)) ok_X5_takesSemicolon ml_X5_97 rfl rfl rfl rfl (Nat.le_of_ble_eq_true rfl) ⟨Nat.le_of_ble_eq_true rfl, Nat.le_of_ble_eq_true rfl⟩ dX5_readsItem_152 rfl (fun r1 νs hp1 => ?_)
        obtain ⟨rfl, rfl⟩ := hp1
        refine J.aload_n hG dX5_readsItem_155 rfl rfl ?_
        refine J.dup hG dX5_readsItem_156 (fun _ => rfl) ?_
        refine J.getI hG ciX5 rfl 7 7 rfl (Nat.le_of_ble_eq_true rfl) rfl fl_X5_42 dX5_readsItem_157 ?_
        refine J.iconst hG dX5_readsItem_160 (by decide) ?_
        refine J.iadd hG dX5_readsItem_161 (fun _ _ => (by first | omega | (have := k9.2.2.1; omega) | ((try simp only [u1_2, u1_3, u1_4, u1_5, u1_7, u1_8, u1_9, u2_1, u2_3, u2_4, u2_5, u2_7, u2_8, u2_9, u3_1, u3_2, u3_4, u3_5, u3_7, u3_8, u3_9, u11_1, u11_2, u11_3, u11_4, u11_5, u11_7, u11_8, u11_9, u12_1, u12_2, u12_3, u12_4, u12_5, u12_7, u12_8, u12_9]); have := hb.2.2.2.1; omega))) ?_
        refine J.putI hG ciX5 rfl 7 7 rfl (Nat.le_of_ble_eq_true rfl) rfl fl_X5_42 rfl rfl dX5_readsItem_162 ?_
        refine J.vret hG dX5_readsItem_165 ?_
        rw [hX]; dsimp only
        rw [bodyS_s] at hsp
        have hs2 : scaleS (incr μ 1 6) = _ := hs
        rw [hs2] at hsp
        exact ⟨rfl, Or.inr ⟨by rw [hsp, u178]; rfl, BadF_of hb _ k1.2.2.2.1 k1.2.2.2.2⟩⟩
    · refine J.lookup hG 116 dX5_readsItem_44 (by decide) (off := 72) (by decide) rfl ?_
      refine J.aload_n hG dX5_readsItem_116 rfl rfl ?_
      refine J.getR hG ciX5 rfl 1 1 rfl (Nat.le_of_ble_eq_true rfl) rfl fl_X5_18 dX5_readsItem_117 ?_
      refine J.getR hG ciX1 rfl 6 6 rfl (Nat.le_of_ble_eq_true rfl) rfl fl_X5_91 dX5_readsItem_120 ?_
      refine J.aload_n hG dX5_readsItem_123 rfl rfl ?_
      refine J.getR hG ciX5 rfl 1 1 rfl (Nat.le_of_ble_eq_true rfl) rfl fl_X5_18 dX5_readsItem_124 ?_
      refine J.getI hG ciX1 rfl 2 2 rfl (Nat.le_of_ble_eq_true rfl) rfl fl_X5_94 dX5_readsItem_127 ?_
      refine J.aload_n hG dX5_readsItem_130 rfl rfl ?_
      refine J.iconst hG dX5_readsItem_131 (by decide) ?_
      refine J.bipush hG dX5_readsItem_132 (by decide) (by decide) ?_
      refine J.callV hG (X5_takesNumber _ m k1.1 k1.2.1 _ _ (by decide)) ok_X5_takesNumber ml_X5_84 rfl rfl rfl rfl (Nat.le_of_ble_eq_true rfl) ⟨Nat.le_of_ble_eq_true rfl, Nat.le_of_ble_eq_true rfl⟩ dX5_readsItem_134 rfl (fun r1 ν2 hp1 => ?_)
      rcases hp1 with ⟨a1, rfl, e1⟩ | ⟨a1, rfl, e1⟩
      · obtain ⟨kx, c2, c2r, -⟩ := Go_nx k1 (by omega) e1
        have ky := Go_w kx 5 (up μ 1 6 (μ 1 6 + 1) 2 2) (up μ 1 6 (μ 1 6 + 1) 11 (up μ 1 6 (μ 1 6 + 1) 1 6)) (by omega)
        have kz := Go_2 ky 2 (up ν2 5 (up μ 1 6 (μ 1 6 + 1) 2 2) (up μ 1 6 (μ 1 6 + 1) 11 (up μ 1 6 (μ 1 6 + 1) 1 6)) 2 2 + 1) (PI_2 ky.1 _ _ (fun w => absurd w (by decide)) (fun w => absurd w (by decide)) (fun _ => by rw [u2_5, c2, c1]; omega))
        refine J.iast hG rfl (by first | (rw [c1]; omega) | omega) (by first | (rw [c1]; omega) | omega) dX5_readsItem_137 ?_
        refine J.aload_n hG dX5_readsItem_138 rfl rfl ?_
        refine J.getR hG ciX5 rfl 1 1 rfl (Nat.le_of_ble_eq_true rfl) rfl fl_X5_18 dX5_readsItem_139 ?_
        refine J.dup hG dX5_readsItem_142 (fun _ => rfl) ?_
        refine J.getI hG ciX1 rfl 2 2 rfl (Nat.le_of_ble_eq_true rfl) rfl fl_X5_94 dX5_readsItem_143 ?_
        refine J.iconst hG dX5_readsItem_146 (by decide) ?_
        refine J.iadd hG dX5_readsItem_147 (fun _ _ => (by first | (rw [u2_5, c2, c1]; omega) | (rw [u2_5, c2]; omega))) ?_
        refine J.putI hG ciX1 rfl 2 2 rfl (Nat.le_of_ble_eq_true rfl) rfl fl_X5_94 rfl rfl dX5_readsItem_148 ?_
        refine J.aload_n hG dX5_readsItem_151 rfl rfl ?_
        refine J.callV hG (X5_takesSemicolon _ m kz.1 kz.2.1) ok_X5_takesSemicolon ml_X5_97 rfl rfl rfl rfl (Nat.le_of_ble_eq_true rfl) ⟨Nat.le_of_ble_eq_true rfl, Nat.le_of_ble_eq_true rfl⟩ dX5_readsItem_152 rfl (fun r1 νs hp1 => ?_)
        rcases hp1 with ⟨b1, rfl, f1⟩ | ⟨b1, rfl, f1⟩
        · obtain ⟨k9, -, -, -⟩ := Go_nx kz (by omega) f1
          refine J.aload_n hG dX5_readsItem_155 rfl rfl ?_
          refine J.dup hG dX5_readsItem_156 (fun _ => rfl) ?_
          refine J.getI hG ciX5 rfl 7 7 rfl (Nat.le_of_ble_eq_true rfl) rfl fl_X5_42 dX5_readsItem_157 ?_
          refine J.iconst hG dX5_readsItem_160 (by decide) ?_
          refine J.iadd hG dX5_readsItem_161 (fun _ _ => (by first | omega | (have := k9.2.2.1; omega) | ((try simp only [u1_2, u1_3, u1_4, u1_5, u1_7, u1_8, u1_9, u2_1, u2_3, u2_4, u2_5, u2_7, u2_8, u2_9, u3_1, u3_2, u3_4, u3_5, u3_7, u3_8, u3_9, u11_1, u11_2, u11_3, u11_4, u11_5, u11_7, u11_8, u11_9, u12_1, u12_2, u12_3, u12_4, u12_5, u12_7, u12_8, u12_9]); have := hb.2.2.2.1; omega))) ?_
          refine J.putI hG ciX5 rfl 7 7 rfl (Nat.le_of_ble_eq_true rfl) rfl fl_X5_42 rfl rfl dX5_readsItem_162 ?_
          refine J.vret hG dX5_readsItem_165 ?_
          rw [hX]; dsimp only
          rw [bodyS_p] at hsp
          rw [numS_ok (σ := incr μ 1 6) a1] at hsp
          try dsimp only at hsp
          rw [← (show ν2 = up (incr μ 1 6) 1 6 (incr μ 1 6 1 6 + 1) from e1)] at hsp
          have hsp2 : itemS μ = semS _ := hsp
          refine ⟨rfl, Or.inl ⟨?_, PI_1 k9.1 _ _ (fun w => absurd w (by decide)) (fun w => absurd w (by decide)), by rw [up_ne _ (by decide)]; exact k9.2.1, by rw [up_self, k9.2.2.1], (fun d hd => by rw [up_cell _ _ _ (by omega), k9.2.2.2.1 d hd]), by rw [up_ne _ (by decide), k9.2.2.2.2]⟩⟩
          rw [hsp2, semS_ok (by exact b1), f1]
          rfl
        · obtain ⟨hb, hf, -, -⟩ := Go_bad kz f1
          refine J.aload_n hG dX5_readsItem_155 rfl rfl ?_
          refine J.dup hG dX5_readsItem_156 (fun _ => rfl) ?_
          refine J.getI hG ciX5 rfl 7 7 rfl (Nat.le_of_ble_eq_true rfl) rfl fl_X5_42 dX5_readsItem_157 ?_
          refine J.iconst hG dX5_readsItem_160 (by decide) ?_
          refine J.iadd hG dX5_readsItem_161 (fun _ _ => (by first | omega | (have := k9.2.2.1; omega) | ((try simp only [u1_2, u1_3, u1_4, u1_5, u1_7, u1_8, u1_9, u2_1, u2_3, u2_4, u2_5, u2_7, u2_8, u2_9, u3_1, u3_2, u3_4, u3_5, u3_7, u3_8, u3_9, u11_1, u11_2, u11_3, u11_4, u11_5, u11_7, u11_8, u11_9, u12_1, u12_2, u12_3, u12_4, u12_5, u12_7, u12_8, u12_9]); have := hb.2.2.2.1; omega))) ?_
          refine J.putI hG ciX5 rfl 7 7 rfl (Nat.le_of_ble_eq_true rfl) rfl fl_X5_42 rfl rfl dX5_readsItem_162 ?_
          refine J.vret hG dX5_readsItem_165 ?_
          rw [hX]; dsimp only
          rw [bodyS_p] at hsp
          rw [numS_ok (σ := incr μ 1 6) a1] at hsp
          try dsimp only at hsp
          rw [← (show ν2 = up (incr μ 1 6) 1 6 (incr μ 1 6 1 6 + 1) from e1)] at hsp
          have hsp2 : itemS μ = semS _ := hsp
          refine ⟨rfl, Or.inr ⟨?_, BadF_of hb _ (fun _ _ => rfl) rfl⟩⟩
          rw [hsp2, semS_no (by exact b1), u178, hf]
          rfl
      · obtain ⟨hb, hf, c2, c2r⟩ := Go_bad k1 e1
        refine J.iast hG rfl (by first | (rw [c1]; omega) | omega) (by first | (rw [c1]; omega) | omega) dX5_readsItem_137 ?_
        refine J.aload_n hG dX5_readsItem_138 rfl rfl ?_
        refine J.getR hG ciX5 rfl 1 1 rfl (Nat.le_of_ble_eq_true rfl) rfl fl_X5_18 dX5_readsItem_139 ?_
        refine J.dup hG dX5_readsItem_142 (fun _ => rfl) ?_
        refine J.getI hG ciX1 rfl 2 2 rfl (Nat.le_of_ble_eq_true rfl) rfl fl_X5_94 dX5_readsItem_143 ?_
        refine J.iconst hG dX5_readsItem_146 (by decide) ?_
        refine J.iadd hG dX5_readsItem_147 (fun _ _ => (by first | (rw [u2_5, c2, c1]; omega) | (rw [u2_5, c2]; omega))) ?_
        refine J.putI hG ciX1 rfl 2 2 rfl (Nat.le_of_ble_eq_true rfl) rfl fl_X5_94 rfl rfl dX5_readsItem_148 ?_
        refine J.aload_n hG dX5_readsItem_151 rfl rfl ?_
        refine J.callV hG (X5_takesSemicolon_b _ (by (try simp only [u1_2, u1_3, u1_4, u1_5, u1_7, u1_8, u1_9, u2_1, u2_3, u2_4, u2_5, u2_7, u2_8, u2_9, u3_1, u3_2, u3_4, u3_5, u3_7, u3_8, u3_9, u11_1, u11_2, u11_3, u11_4, u11_5, u11_7, u11_8, u11_9, u12_1, u12_2, u12_3, u12_4, u12_5, u12_7, u12_8, u12_9]); have := hb.2.2.2.2.1; omega) (by (try simp only [u1_2, u1_3, u1_4, u1_5, u1_7, u1_8, u1_9, u2_1, u2_3, u2_4, u2_5, u2_7, u2_8, u2_9, u3_1, u3_2, u3_4, u3_5, u3_7, u3_8, u3_9, u11_1, u11_2, u11_3, u11_4, u11_5, u11_7, u11_8, u11_9, u12_1, u12_2, u12_3, u12_4, u12_5, u12_7, u12_8, u12_9]); exact hb.2.2.1)) ok_X5_takesSemicolon ml_X5_97 rfl rfl rfl rfl (Nat.le_of_ble_eq_true rfl) ⟨Nat.le_of_ble_eq_true rfl, Nat.le_of_ble_eq_true rfl⟩ dX5_readsItem_152 rfl (fun r1 νs hp1 => ?_)
        obtain ⟨rfl, rfl⟩ := hp1
        refine J.aload_n hG dX5_readsItem_155 rfl rfl ?_
        refine J.dup hG dX5_readsItem_156 (fun _ => rfl) ?_
        refine J.getI hG ciX5 rfl 7 7 rfl (Nat.le_of_ble_eq_true rfl) rfl fl_X5_42 dX5_readsItem_157 ?_
        refine J.iconst hG dX5_readsItem_160 (by decide) ?_
        refine J.iadd hG dX5_readsItem_161 (fun _ _ => (by first | omega | (have := k9.2.2.1; omega) | ((try simp only [u1_2, u1_3, u1_4, u1_5, u1_7, u1_8, u1_9, u2_1, u2_3, u2_4, u2_5, u2_7, u2_8, u2_9, u3_1, u3_2, u3_4, u3_5, u3_7, u3_8, u3_9, u11_1, u11_2, u11_3, u11_4, u11_5, u11_7, u11_8, u11_9, u12_1, u12_2, u12_3, u12_4, u12_5, u12_7, u12_8, u12_9]); have := hb.2.2.2.1; omega))) ?_
        refine J.putI hG ciX5 rfl 7 7 rfl (Nat.le_of_ble_eq_true rfl) rfl fl_X5_42 rfl rfl dX5_readsItem_162 ?_
        refine J.vret hG dX5_readsItem_165 ?_
        rw [hX]; dsimp only
        rw [bodyS_p] at hsp
        rw [numS_no (σ := incr μ 1 6) a1] at hsp
        exact ⟨rfl, Or.inr ⟨by rw [hsp, u178]; (try simp only [u1_2, u1_3, u1_4, u1_5, u1_7, u1_8, u1_9, u2_1, u2_3, u2_4, u2_5, u2_7, u2_8, u2_9, u3_1, u3_2, u3_4, u3_5, u3_7, u3_8, u3_9, u11_1, u11_2, u11_3, u11_4, u11_5, u11_7, u11_8, u11_9, u12_1, u12_2, u12_3, u12_4, u12_5, u12_7, u12_8, u12_9]); rw [hf]; (try simp only [u1_2, u1_3, u1_4, u1_5, u1_7, u1_8, u1_9, u2_1, u2_3, u2_4, u2_5, u2_7, u2_8, u2_9, u3_1, u3_2, u3_4, u3_5, u3_7, u3_8, u3_9, u11_1, u11_2, u11_3, u11_4, u11_5, u11_7, u11_8, u11_9, u12_1, u12_2, u12_3, u12_4, u12_5, u12_7, u12_8, u12_9]); rfl, BadF_of (Bad_w (Bad_w hb _ _ _ (by omega)) _ _ _ (by omega)) _ (fun _ _ => rfl) rfl⟩⟩
  · refine J.aload_n hG dX5_readsItem_19 rfl rfl ?_
    refine J.aload_n hG dX5_readsItem_20 rfl rfl ?_
    refine J.getR hG ciX5 rfl 5 5 rfl (Nat.le_of_ble_eq_true rfl) rfl fl_X5_36 dX5_readsItem_21 ?_
    refine J.aload_n hG dX5_readsItem_24 rfl rfl ?_
    refine J.getI hG ciX5 rfl 6 6 rfl (Nat.le_of_ble_eq_true rfl) rfl fl_X5_39 dX5_readsItem_25 ?_
    refine J.iald hG rfl (by omega) (by omega) dX5_readsItem_28 ?_
    refine J.putI hG ciX5 rfl 8 8 rfl (Nat.le_of_ble_eq_true rfl) rfl fl_X5_45 rfl rfl dX5_readsItem_29 ?_
    refine J.vret hG dX5_readsItem_32 ?_
    rw [hX]; dsimp only
    exact ⟨rfl, Or.inr ⟨by unfold itemS; rw [← hcq, if_neg h16, up_self], ⟨fun d hd => by rw [up_cell _ _ _ (by omega)], by rw [up_ne _ (by decide)], by rw [up_ne _ (by decide)]; omega, by rw [up_self]; exact ge0.2⟩⟩⟩


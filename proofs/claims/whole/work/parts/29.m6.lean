theorem MN_MB {μ ν : Mem} (hB : MB μ) (h : MN μ ν) : MB ν := by
  have e2 := h.1 2 (by decide) (by decide)
  have e5 := h.1 5 (by decide) (by decide)
  have e7 := h.1 7 (by decide) (by decide)
  unfold MB
  rw [e2, e5, e7, h.2.1 14 (by decide), h.2.1 15 (by decide), h.2.1 16 (by decide), h.2.1 17 (by decide)]
  exact hB

theorem MB_law {μ : Mem} (hB : MB μ) (s w t : Int) (hs : 0 ≤ s ∧ s < 4) : MB (up (up μ 7 (2 * s) w) 7 (2 * s + 1) t) := by
  obtain ⟨h1, h2, h3, h4, h5, h6⟩ := hB
  unfold MB
  rw [up_cell _ _ _ (show (0 : Nat) ≠ 7 by decide), up_cell _ _ _ (show (0 : Nat) ≠ 7 by decide), up_cell _ _ _ (show (2 : Nat) ≠ 7 by decide), up_cell _ _ _ (show (2 : Nat) ≠ 7 by decide), up_cell _ _ _ (show (5 : Nat) ≠ 7 by decide), up_cell _ _ _ (show (5 : Nat) ≠ 7 by decide)]
  refine ⟨h1, h2, h3, h4, h5, fun l k a b c d => ?_⟩
  rw [up_ne _ (fun z => by omega), up_ne _ (fun z => by omega)]
  exact h6 l k a b c d
set_option maxRecDepth 100000 in
set_option maxHeartbeats 4000000 in
theorem X7_passes (μ0 μ : Mem) (hμ : μ = th μ0) (hB : MB μ) (hu : 0 ≤ μ 0 27 ∧ μ 0 27 ≤ 10) (hy : 0 ≤ μ 7 24 ∧ μ 7 24 ≤ 99) (hj : 0 ≤ μ 7 25 ∧ μ 7 25 ≤ 16 * μ 7 24) (n : Int) : CT TM md_X7_passes [aR 0, aI n] μ0 (fun rv μ1 => if ¬ (1 ≤ n ∧ n ≤ 30) then rv = some (aI (-1)) ∧ μ1 = μ else if 99 < μ 7 24 + n then rv = some (aI (-2)) ∧ μ1 = μ else rv = some (aI (μ 7 24 + n)) ∧ ∃ α, MN μ α ∧ MGoN 7 α n μ1) := by
  refine CT.of (Nat.le_of_ble_eq_true rfl) (by decide) rfl (Nat.le_of_ble_eq_true rfl) (fun X hG hX => ?_)
  have hG : G TM X RX7 cX7_passes 3 4 94 (some .int) := hG
  show J TM X 3 0 [some (aR 0), some (aI n), none] [] μ0
  refine J.aload_n hG dX7_passes_0 rfl rfl ?_
  refine J.iconst hG dX7_passes_1 (by decide) ?_
  refine J.putI hG ciX7 rfl 0 0 rfl (Nat.le_of_ble_eq_true rfl) rfl fl_X7_75 rfl rfl dX7_passes_2 ?_
  show J TM X 3 5 [some (aR 0), some (aI n), none] [] (th μ0)
  rw [← hμ]
  refine J.iload_n hG dX7_passes_5 rfl rfl ?_
  refine J.iconst hG dX7_passes_6 (by decide) ?_
  refine J.bipush hG dX7_passes_7 (by decide) (by decide) ?_
  refine J.callS hG (X7_in _ _ _ _) ok_X7_in ml_X7_78 rfl (Nat.le_of_ble_eq_true rfl) ⟨Nat.le_of_ble_eq_true rfl, Nat.le_of_ble_eq_true rfl⟩ dX7_passes_9 rfl (fun r1 μ1 hp1 => ?_)
  obtain ⟨rfl, rfl⟩ := hp1
  refine J.ifb_ne hG 17 dX7_passes_12 rfl (fun h12 => ?_) (fun h12 => ?_)
  · refine J.aload_n hG dX7_passes_17 rfl rfl ?_
    refine J.getR hG ciX7 rfl 22 22 rfl (Nat.le_of_ble_eq_true rfl) rfl fl_X7_28 dX7_passes_18 ?_
    refine J.bipush hG dX7_passes_21 (by decide) (by decide) ?_
    refine J.iald hG rfl (by omega) (by omega) dX7_passes_23 ?_
    refine J.iload_n hG dX7_passes_24 rfl rfl ?_
    refine J.iadd hG dX7_passes_25 (fun _ _ => (by omega)) ?_
    refine J.bipush hG dX7_passes_26 (by decide) (by decide) ?_
    refine J.icmp_le hG 34 dX7_passes_28 rfl (fun h28 => ?_) (fun h28 => ?_)
    · refine J.aload_n hG dX7_passes_34 rfl rfl ?_
      refine J.callV hG (X7_notes _ hu) ok_X7_notes ml_X7_183 rfl rfl rfl rfl (Nat.le_of_ble_eq_true rfl) ⟨Nat.le_of_ble_eq_true rfl, Nat.le_of_ble_eq_true rfl⟩ dX7_passes_35 rfl (fun r1 α hp1 => ?_)
      obtain ⟨rfl, hn⟩ := hp1
      have hBa := MN_MB hB hn
      have ea7 : α 7 = μ 7 := hn.1 7 (by decide) (by decide)
      have ea2 : α 2 = μ 2 := hn.1 2 (by decide) (by decide)
      have ea14 := hn.2.1 14 (by decide)
      have ea15 := hn.2.1 15 (by decide)
      refine J.iconst hG dX7_passes_38 (by decide) ?_
      refine J.istore_n hG dX7_passes_39 rfl (Nat.le_of_ble_eq_true rfl) ?_
      have hRa := MB_RB hBa
      have lp : ∀ (k : Nat) (y : Int) (ν : Mem), 0 ≤ y → y + k = n → (MGoN 7 α y ν) → J TM X 3 40 [some (aR 0), some (aI n), some (aI y)] [] ν := by
        intro k
        induction k with
        | zero =>
          intro y ν i0 i1 hI
          have f24 := hI.2.2.1
          have jb := MGoN_jb hBa (by omega) hI
          rw [ea7] at f24 jb
          have ey : y = n := by omega
          refine J.iload_n hG dX7_passes_40 rfl rfl ?_
          refine J.iload_n hG dX7_passes_41 rfl rfl ?_
          refine J.icmp_ge hG 59 dX7_passes_42 rfl (fun h42 => ?_) (fun h42 => absurd h42 (by omega))
          refine J.aload_n hG dX7_passes_59 rfl rfl ?_
          refine J.getR hG ciX7 rfl 22 22 rfl (Nat.le_of_ble_eq_true rfl) rfl fl_X7_28 dX7_passes_60 ?_
          refine J.bipush hG dX7_passes_63 (by decide) (by decide) ?_
          refine J.iald hG rfl (by omega) (by omega) dX7_passes_65 ?_
          refine J.iret hG dX7_passes_66 ?_
          rw [hX]; dsimp only
          subst ey
          rw [if_neg (by omega), if_neg (by omega)]
          exact ⟨by rw [f24], α, hn, hI⟩
        | succ k ih =>
          intro y ν i0 i1 hI
          have f24 := hI.2.2.1
          have jb := MGoN_jb hBa (by omega) hI
          rw [ea7] at f24 jb
          refine J.iload_n hG dX7_passes_40 rfl rfl ?_
          refine J.iload_n hG dX7_passes_41 rfl rfl ?_
          refine J.icmp_ge hG 59 dX7_passes_42 rfl (fun h42 => absurd h42 (by omega)) (fun h42 => ?_)
          refine J.aload_n hG dX7_passes_45 rfl rfl ?_
          refine J.aload_n hG dX7_passes_46 rfl rfl ?_
          refine J.getR hG ciX7 rfl 22 22 rfl (Nat.le_of_ble_eq_true rfl) rfl fl_X7_28 dX7_passes_47 ?_
          refine J.callV hG (X7_goes_7 _ (MGoN_MB (Or.inl rfl) hBa hRa hI) (MGoN_RB hBa hRa hI) (by omega) (by omega)) ok_X7_goes ml_X7_186 rfl rfl rfl rfl (Nat.le_of_ble_eq_true rfl) ⟨Nat.le_of_ble_eq_true rfl, Nat.le_of_ble_eq_true rfl⟩ dX7_passes_50 rfl (fun r1 ν1 hp1 => ?_)
          obtain ⟨rfl, hg⟩ := hp1
          refine J.iinc hG dX7_passes_53 (Nat.le_of_ble_eq_true rfl) rfl (fun _ => (by omega)) ?_
          refine J.goto hG 40 dX7_passes_56 rfl ?_
          exact ih (y + 1) _ (by omega) (by omega) (MGoN_succ hBa hRa (by omega) hI hg)
      exact lp n.toNat 0 _ (Int.le_refl _) (by omega) (MGoN_0 hRa)
    · refine J.bipush hG dX7_passes_31 (by decide) (by decide) ?_
      refine J.iret hG dX7_passes_33 ?_
      rw [hX]; dsimp only
      rw [if_neg (by omega), if_pos (by omega)]
      exact ⟨rfl, rfl⟩
  · refine J.iconst hG dX7_passes_15 (by decide) ?_
    refine J.iret hG dX7_passes_16 ?_
    rw [hX]; dsimp only
    rw [if_pos (by omega)]
    exact ⟨rfl, rfl⟩

set_option maxRecDepth 100000 in
set_option maxHeartbeats 4000000 in
theorem X7_changes (μ0 μ : Mem) (hμ : μ = th μ0) (hB : MB μ) (hu : 0 ≤ μ 0 27 ∧ μ 0 27 ≤ 10) (l s b : Int) : CT TM md_X7_changes [aR 0, aI l, aI s, aI b] μ0 (fun rv μ1 => if ¬ ((0 ≤ l ∧ l < μ 0 15) ∧ (0 ≤ s ∧ s < μ 0 14) ∧ (-9 ≤ b ∧ b ≤ 9)) then rv = some (aI (-1)) ∧ μ1 = μ else rv = some (aI (cl (μ 2 s) (μ 7 (8 + 4 * l + s) + b))) ∧ ∃ α, MN μ α ∧ μ1 = up α 7 (8 + 4 * l + s) (cl (μ 2 s) (μ 7 (8 + 4 * l + s) + b))) := by
  refine CT.of (Nat.le_of_ble_eq_true rfl) (by decide) rfl (Nat.le_of_ble_eq_true rfl) (fun X hG hX => ?_)
  have hG : G TM X RX7 cX7_changes 5 2 43 (some .int) := hG
  show J TM X 5 0 [some (aR 0), some (aI l), some (aI s), some (aI b), none] [] μ0
  refine J.aload_n hG dX7_changes_0 rfl rfl ?_
  refine J.iconst hG dX7_changes_1 (by decide) ?_
  refine J.putI hG ciX7 rfl 0 0 rfl (Nat.le_of_ble_eq_true rfl) rfl fl_X7_75 rfl rfl dX7_changes_2 ?_
  show J TM X 5 5 [some (aR 0), some (aI l), some (aI s), some (aI b), none] [] (th μ0)
  rw [← hμ]
  have hB2 := hB
  obtain ⟨h1, h2, h3, h4, h5, h6⟩ := hB2
  refine J.aload_n hG dX7_changes_5 rfl rfl ?_
  refine J.iload_n hG dX7_changes_6 rfl rfl ?_
  refine J.callV hG (X7_isLife _ _ (by omega)) ok_X7_isLife ml_X7_171 rfl rfl rfl rfl (Nat.le_of_ble_eq_true rfl) ⟨Nat.le_of_ble_eq_true rfl, Nat.le_of_ble_eq_true rfl⟩ dX7_changes_7 rfl (fun r1 μ1 hp1 => ?_)
  obtain ⟨rfl, rfl⟩ := hp1
  refine J.ifb_eq hG 32 dX7_changes_10 rfl (fun h10 => ?_) (fun h10 => ?_)
  · refine J.iconst hG dX7_changes_32 (by decide) ?_
    refine J.iret hG dX7_changes_33 ?_
    rw [hX]; dsimp only
    rw [if_pos (by omega)]
    exact ⟨rfl, rfl⟩
  · refine J.aload_n hG dX7_changes_13 rfl rfl ?_
    refine J.iload_n hG dX7_changes_14 rfl rfl ?_
    refine J.callV hG (X7_isScale _ _ (by omega)) ok_X7_isScale ml_X7_159 rfl rfl rfl rfl (Nat.le_of_ble_eq_true rfl) ⟨Nat.le_of_ble_eq_true rfl, Nat.le_of_ble_eq_true rfl⟩ dX7_changes_15 rfl (fun r1 μ1 hp1 => ?_)
    obtain ⟨rfl, rfl⟩ := hp1
    refine J.ifb_eq hG 32 dX7_changes_18 rfl (fun h18 => ?_) (fun h18 => ?_)
    · refine J.iconst hG dX7_changes_32 (by decide) ?_
      refine J.iret hG dX7_changes_33 ?_
      rw [hX]; dsimp only
      rw [if_pos (by omega)]
      exact ⟨rfl, rfl⟩
    · refine J.iload_n hG dX7_changes_21 rfl rfl ?_
      refine J.bipush hG dX7_changes_22 (by decide) (by decide) ?_
      refine J.bipush hG dX7_changes_24 (by decide) (by decide) ?_
      refine J.callS hG (X7_in _ _ _ _) ok_X7_in ml_X7_78 rfl (Nat.le_of_ble_eq_true rfl) ⟨Nat.le_of_ble_eq_true rfl, Nat.le_of_ble_eq_true rfl⟩ dX7_changes_26 rfl (fun r1 μ1 hp1 => ?_)
      obtain ⟨rfl, rfl⟩ := hp1
      refine J.ifb_ne hG 34 dX7_changes_29 rfl (fun h29 => ?_) (fun h29 => ?_)
      · have q5 := h5 s (by omega) (by omega)
        have q6 := h6 l s (by omega) (by omega) (by omega) (by omega)
        refine J.aload_n hG dX7_changes_34 rfl rfl ?_
        refine J.callV hG (X7_notes _ hu) ok_X7_notes ml_X7_183 rfl rfl rfl rfl (Nat.le_of_ble_eq_true rfl) ⟨Nat.le_of_ble_eq_true rfl, Nat.le_of_ble_eq_true rfl⟩ dX7_changes_35 rfl (fun r1 α hp1 => ?_)
        obtain ⟨rfl, hn⟩ := hp1
        have hBa := MN_MB hB hn
        have ea7 : α 7 = μ 7 := hn.1 7 (by decide) (by decide)
        have ea2 : α 2 = μ 2 := hn.1 2 (by decide) (by decide)
        have ea14 := hn.2.1 14 (by decide)
        have ea15 := hn.2.1 15 (by decide)
        refine J.bipush hG dX7_changes_38 (by decide) (by decide) ?_
        refine J.iconst hG dX7_changes_40 (by decide) ?_
        refine J.iload_n hG dX7_changes_41 rfl rfl ?_
        refine J.imul hG dX7_changes_42 (fun _ _ => (by omega)) ?_
        refine J.iadd hG dX7_changes_43 (fun _ _ => (by omega)) ?_
        refine J.iload_n hG dX7_changes_44 rfl rfl ?_
        refine J.iadd hG dX7_changes_45 (fun _ _ => (by omega)) ?_
        refine J.istore hG dX7_changes_46 (Nat.le_of_ble_eq_true rfl) ?_
        refine J.aload_n hG dX7_changes_48 rfl rfl ?_
        refine J.getR hG ciX7 rfl 22 22 rfl (Nat.le_of_ble_eq_true rfl) rfl fl_X7_28 dX7_changes_49 ?_
        refine J.iload hG dX7_changes_52 rfl ?_
        refine J.aload_n hG dX7_changes_54 rfl rfl ?_
        refine J.getR hG ciX7 rfl 22 22 rfl (Nat.le_of_ble_eq_true rfl) rfl fl_X7_28 dX7_changes_55 ?_
        refine J.iload hG dX7_changes_58 rfl ?_
        refine J.iald hG rfl (by omega) (by omega) dX7_changes_60 ?_
        refine J.iload_n hG dX7_changes_61 rfl rfl ?_
        refine J.iadd hG dX7_changes_62 (fun _ _ => (by rw [ea7]; omega)) ?_
        refine J.aload_n hG dX7_changes_63 rfl rfl ?_
        refine J.getR hG ciX7 rfl 9 9 rfl (Nat.le_of_ble_eq_true rfl) rfl fl_X7_13 dX7_changes_64 ?_
        refine J.iload_n hG dX7_changes_67 rfl rfl ?_
        refine J.iald hG rfl (by omega) (by omega) dX7_changes_68 ?_
        refine J.callS hG (X7_held _ _ _) ok_X7_held ml_X7_180 rfl (Nat.le_of_ble_eq_true rfl) ⟨Nat.le_of_ble_eq_true rfl, Nat.le_of_ble_eq_true rfl⟩ dX7_changes_69 rfl (fun r1 μ1 hp1 => ?_)
        obtain ⟨rfl, rfl⟩ := hp1
        refine J.iast hG rfl (by omega) (by omega) dX7_changes_72 ?_
        refine J.aload_n hG dX7_changes_73 rfl rfl ?_
        refine J.getR hG ciX7 rfl 22 22 rfl (Nat.le_of_ble_eq_true rfl) rfl fl_X7_28 dX7_changes_74 ?_
        refine J.iload hG dX7_changes_77 rfl ?_
        refine J.iald hG rfl (by omega) (by omega) dX7_changes_79 ?_
        refine J.iret hG dX7_changes_80 ?_
        rw [hX]; dsimp only
        rw [if_neg (by omega), up_self, ea7, ea2]
        exact ⟨rfl, α, hn, rfl⟩
      · refine J.iconst hG dX7_changes_32 (by decide) ?_
        refine J.iret hG dX7_changes_33 ?_
        rw [hX]; dsimp only
        rw [if_pos (by omega)]
        exact ⟨rfl, rfl⟩

set_option maxRecDepth 100000 in
set_option maxHeartbeats 4000000 in
theorem X7_law (μ0 μ : Mem) (hμ : μ = th μ0) (hB : MB μ) (hu : 0 ≤ μ 0 27 ∧ μ 0 27 ≤ 10) (s w t : Int) : CT TM md_X7_law [aR 0, aI s, aI w, aI t] μ0 (fun rv μ1 => if ¬ ((0 ≤ s ∧ s < μ 0 14) ∧ (0 ≤ w ∧ w ≤ 3) ∧ (1 ≤ t ∧ t ≤ μ 2 s)) then rv = some (aI (-1)) ∧ μ1 = μ else rv = some (aI (pc4 (mBits μ1 7))) ∧ ∃ α, MN μ α ∧ μ1 = up (up α 7 (2 * s) w) 7 (2 * s + 1) t) := by
  refine CT.of (Nat.le_of_ble_eq_true rfl) (by decide) rfl (Nat.le_of_ble_eq_true rfl) (fun X hG hX => ?_)
  have hG : G TM X RX7 cX7_law 4 5 115 (some .int) := hG
  show J TM X 4 0 [some (aR 0), some (aI s), some (aI w), some (aI t)] [] μ0
  refine J.aload_n hG dX7_law_0 rfl rfl ?_
  refine J.iconst hG dX7_law_1 (by decide) ?_
  refine J.putI hG ciX7 rfl 0 0 rfl (Nat.le_of_ble_eq_true rfl) rfl fl_X7_75 rfl rfl dX7_law_2 ?_
  show J TM X 4 5 [some (aR 0), some (aI s), some (aI w), some (aI t)] [] (th μ0)
  rw [← hμ]
  have hB2 := hB
  obtain ⟨h1, h2, h3, h4, h5, h6⟩ := hB2
  refine J.aload_n hG dX7_law_5 rfl rfl ?_
  refine J.iload_n hG dX7_law_6 rfl rfl ?_
  refine J.iload_n hG dX7_law_7 rfl rfl ?_
  refine J.iload_n hG dX7_law_8 rfl rfl ?_
  refine J.callV hG (X7_isLaw _ hB _ _ _) ok_X7_isLaw ml_X7_194 rfl rfl rfl rfl (Nat.le_of_ble_eq_true rfl) ⟨Nat.le_of_ble_eq_true rfl, Nat.le_of_ble_eq_true rfl⟩ dX7_law_9 rfl (fun r1 μ1 hp1 => ?_)
  obtain ⟨rfl, rfl⟩ := hp1
  refine J.ifb_ne hG 17 dX7_law_12 rfl (fun h12 => ?_) (fun h12 => ?_)
  · refine J.aload_n hG dX7_law_17 rfl rfl ?_
    refine J.callV hG (X7_notes _ hu) ok_X7_notes ml_X7_183 rfl rfl rfl rfl (Nat.le_of_ble_eq_true rfl) ⟨Nat.le_of_ble_eq_true rfl, Nat.le_of_ble_eq_true rfl⟩ dX7_law_18 rfl (fun r1 α hp1 => ?_)
    obtain ⟨rfl, hn⟩ := hp1
    have hBa := MN_MB hB hn
    have ea7 : α 7 = μ 7 := hn.1 7 (by decide) (by decide)
    have ea2 : α 2 = μ 2 := hn.1 2 (by decide) (by decide)
    have ea14 := hn.2.1 14 (by decide)
    have ea15 := hn.2.1 15 (by decide)
    refine J.aload_n hG dX7_law_21 rfl rfl ?_
    refine J.getR hG ciX7 rfl 22 22 rfl (Nat.le_of_ble_eq_true rfl) rfl fl_X7_28 dX7_law_22 ?_
    refine J.iconst hG dX7_law_25 (by decide) ?_
    refine J.iload_n hG dX7_law_26 rfl rfl ?_
    refine J.imul hG dX7_law_27 (fun _ _ => (by omega)) ?_
    refine J.iload_n hG dX7_law_28 rfl rfl ?_
    refine J.iast hG rfl (by omega) (by omega) dX7_law_29 ?_
    refine J.aload_n hG dX7_law_30 rfl rfl ?_
    refine J.getR hG ciX7 rfl 22 22 rfl (Nat.le_of_ble_eq_true rfl) rfl fl_X7_28 dX7_law_31 ?_
    refine J.iconst hG dX7_law_34 (by decide) ?_
    refine J.iload_n hG dX7_law_35 rfl rfl ?_
    refine J.imul hG dX7_law_36 (fun _ _ => (by omega)) ?_
    refine J.iconst hG dX7_law_37 (by decide) ?_
    refine J.iadd hG dX7_law_38 (fun _ _ => (by omega)) ?_
    refine J.iload_n hG dX7_law_39 rfl rfl ?_
    refine J.iast hG rfl (by omega) (by omega) dX7_law_40 ?_
    refine J.aload_n hG dX7_law_41 rfl rfl ?_
    refine J.aload_n hG dX7_law_42 rfl rfl ?_
    refine J.getR hG ciX7 rfl 22 22 rfl (Nat.le_of_ble_eq_true rfl) rfl fl_X7_28 dX7_law_43 ?_
    refine J.callV hG (X7_unlawful _ (MB_law hBa s w t (by omega)) _ (MB_RB (MB_law hBa s w t (by omega)))) ok_X7_unlawful ml_X7_197 rfl rfl rfl rfl (Nat.le_of_ble_eq_true rfl) ⟨Nat.le_of_ble_eq_true rfl, Nat.le_of_ble_eq_true rfl⟩ dX7_law_46 rfl (fun r1 μ1 hp1 => ?_)
    obtain ⟨rfl, rfl⟩ := hp1
    refine J.callS hG (X7_ones _ _ (mBits_bound _ 7 (by rw [up_cell _ _ _ (by decide), up_cell _ _ _ (by decide)]; omega))) ok_X7_ones ml_X7_201 rfl (Nat.le_of_ble_eq_true rfl) ⟨Nat.le_of_ble_eq_true rfl, Nat.le_of_ble_eq_true rfl⟩ dX7_law_49 rfl (fun r1 μ1 hp1 => ?_)
    obtain ⟨rfl, rfl⟩ := hp1
    refine J.iret hG dX7_law_52 ?_
    rw [hX]; dsimp only
    rw [if_neg (by omega)]
    exact ⟨rfl, α, hn, rfl⟩
  · refine J.iconst hG dX7_law_15 (by decide) ?_
    refine J.iret hG dX7_law_16 ?_
    rw [hX]; dsimp only
    rw [if_pos (by omega)]
    exact ⟨rfl, rfl⟩

/-- the row of now is that block of another row; nothing else in it -/
def Blk (c : Nat) (b : Int) (μ ν : Mem) : Prop := ∀ j : Int, 0 ≤ j → j < 26 → ν 7 j = μ c (b + j)
set_option maxRecDepth 100000 in
set_option maxHeartbeats 4000000 in
theorem X7_undo (μ0 μ : Mem) (hμ : μ = th μ0) (hu : 0 ≤ μ 0 27 ∧ μ 0 27 ≤ 10) : CT TM md_X7_undo [aR 0] μ0 (fun rv μ1 => if μ 0 27 = 0 then rv = some (aI (-2)) ∧ μ1 = μ else rv = some (aI (μ 0 27 - 1)) ∧ (∀ c : Nat, c ≠ 7 → μ1 c = up μ 0 27 (μ 0 27 - 1) c) ∧ Blk 11 (26 * (μ 0 27 - 1)) μ μ1) := by
  refine CT.of (Nat.le_of_ble_eq_true rfl) (by decide) rfl (Nat.le_of_ble_eq_true rfl) (fun X hG hX => ?_)
  have hG : G TM X RX7 cX7_undo 2 0 0 (some .int) := hG
  show J TM X 2 0 [some (aR 0), none] [] μ0
  refine J.aload_n hG dX7_undo_0 rfl rfl ?_
  refine J.iconst hG dX7_undo_1 (by decide) ?_
  refine J.putI hG ciX7 rfl 0 0 rfl (Nat.le_of_ble_eq_true rfl) rfl fl_X7_75 rfl rfl dX7_undo_2 ?_
  show J TM X 2 5 [some (aR 0), none] [] (th μ0)
  rw [← hμ]
  refine J.aload_n hG dX7_undo_5 rfl rfl ?_
  refine J.getI hG ciX7 rfl 27 27 rfl (Nat.le_of_ble_eq_true rfl) rfl fl_X7_150 dX7_undo_6 ?_
  refine J.if_ne hG 15 dX7_undo_9 rfl (fun h9 => ?_) (fun h9 => ?_)
  · refine J.aload_n hG dX7_undo_15 rfl rfl ?_
    refine J.dup hG dX7_undo_16 (fun _ => rfl) ?_
    refine J.getI hG ciX7 rfl 27 27 rfl (Nat.le_of_ble_eq_true rfl) rfl fl_X7_150 dX7_undo_17 ?_
    refine J.iconst hG dX7_undo_20 (by decide) ?_
    refine J.isub hG dX7_undo_21 (fun _ _ => (by omega)) ?_
    refine J.putI hG ciX7 rfl 27 27 rfl (Nat.le_of_ble_eq_true rfl) rfl fl_X7_150 rfl rfl dX7_undo_22 ?_
    refine J.iconst hG dX7_undo_25 (by decide) ?_
    refine J.istore_n hG dX7_undo_26 rfl (Nat.le_of_ble_eq_true rfl) ?_
    have h9 : ¬ μ 0 27 = 0 := by omega
    have lp : ∀ (k : Nat) (i : Int) (ν : Mem), 0 ≤ i → i + k = 26 → (∀ c : Nat, c ≠ 7 → ν c = up μ 0 27 (μ 0 27 - 1) c) → (∀ j : Int, 0 ≤ j → j < i → ν 7 j = μ 11 (26 * (μ 0 27 - 1) + j)) → J TM X 2 27 [some (aR 0), some (aI i)] [] ν := by
      intro k
      induction k with
      | zero =>
        intro i ν i0 i1 hF hA
        have e27 : ν 0 27 = μ 0 27 - 1 := by rw [hF 0 (by decide), up_self]
        have e11 : ν 11 = μ 11 := by rw [hF 11 (by decide), up_cell _ _ _ (by decide)]
        refine J.iload_n hG dX7_undo_27 rfl rfl ?_
        refine J.bipush hG dX7_undo_28 (by decide) (by decide) ?_
        refine J.icmp_ge hG 59 dX7_undo_30 rfl (fun h30 => ?_) (fun h30 => absurd h30 (by omega))
        refine J.aload_n hG dX7_undo_59 rfl rfl ?_
        refine J.getI hG ciX7 rfl 27 27 rfl (Nat.le_of_ble_eq_true rfl) rfl fl_X7_150 dX7_undo_60 ?_
        refine J.iret hG dX7_undo_63 ?_
        rw [hX]; dsimp only
        rw [if_neg h9]
        exact ⟨by rw [e27], hF, fun j a b => hA j a (by omega)⟩
      | succ k ih =>
        intro i ν i0 i1 hF hA
        have e27 : ν 0 27 = μ 0 27 - 1 := by rw [hF 0 (by decide), up_self]
        have e11 : ν 11 = μ 11 := by rw [hF 11 (by decide), up_cell _ _ _ (by decide)]
        refine J.iload_n hG dX7_undo_27 rfl rfl ?_
        refine J.bipush hG dX7_undo_28 (by decide) (by decide) ?_
        refine J.icmp_ge hG 59 dX7_undo_30 rfl (fun h30 => absurd h30 (by omega)) (fun h30 => ?_)
        refine J.aload_n hG dX7_undo_33 rfl rfl ?_
        refine J.getR hG ciX7 rfl 22 22 rfl (Nat.le_of_ble_eq_true rfl) rfl fl_X7_28 dX7_undo_34 ?_
        refine J.iload_n hG dX7_undo_37 rfl rfl ?_
        refine J.aload_n hG dX7_undo_38 rfl rfl ?_
        refine J.getR hG ciX7 rfl 26 26 rfl (Nat.le_of_ble_eq_true rfl) rfl fl_X7_41 dX7_undo_39 ?_
        refine J.bipush hG dX7_undo_42 (by decide) (by decide) ?_
        refine J.aload_n hG dX7_undo_44 rfl rfl ?_
        refine J.getI hG ciX7 rfl 27 27 rfl (Nat.le_of_ble_eq_true rfl) rfl fl_X7_150 dX7_undo_45 ?_
        refine J.imul hG dX7_undo_48 (fun _ _ => (by rw [e27]; omega)) ?_
        refine J.iload_n hG dX7_undo_49 rfl rfl ?_
        refine J.iadd hG dX7_undo_50 (fun _ _ => (by rw [e27]; omega)) ?_
        refine J.iald hG rfl (by rw [e27]; omega) (by rw [e27]; omega) dX7_undo_51 ?_
        refine J.iast hG rfl (by omega) (by omega) dX7_undo_52 ?_
        refine J.iinc hG dX7_undo_53 (Nat.le_of_ble_eq_true rfl) rfl (fun _ => (by omega)) ?_
        refine J.goto hG 27 dX7_undo_56 rfl ?_
        exact ih (i + 1) _ (by omega) (by omega) (fun c hc => by rw [up_cell _ _ _ hc]; exact hF c hc) (fun j a b => by rw [e27, e11]; by_cases hj : j = i; rw [hj, up_self]; rw [up_ne _ (fun z => hj z.2)]; exact hA j a (by omega))
    exact lp 26 0 _ (Int.le_refl _) (by omega) (fun _ _ => rfl) (fun j a b => absurd b (by omega))
  · refine J.bipush hG dX7_undo_12 (by decide) (by decide) ?_
    refine J.iret hG dX7_undo_14 ?_
    rw [hX]; dsimp only
    rw [if_pos (by omega)]
    exact ⟨rfl, rfl⟩

set_option maxRecDepth 100000 in
set_option maxHeartbeats 4000000 in
theorem X7_keep (μ0 μ : Mem) (hμ : μ = th μ0) (q : Int) : CT TM md_X7_keep [aR 0, aI q] μ0 (fun rv μ1 => if ¬ (0 ≤ q ∧ q ≤ 1) then rv = some (aI (-1)) ∧ μ1 = μ else rv = some (aI (μ 7 24)) ∧ (∀ c : Nat, c ≠ 9 → c ≠ 10 → μ1 c = μ c) ∧ (∀ j : Int, μ1 9 j = if 26 * q ≤ j ∧ j < 26 * q + 26 then μ 7 (j - 26 * q) else μ 9 j) ∧ (∀ j : Int, μ1 10 j = if j = q then 1 else μ 10 j)) := by
  refine CT.of (Nat.le_of_ble_eq_true rfl) (by decide) rfl (Nat.le_of_ble_eq_true rfl) (fun X hG hX => ?_)
  have hG : G TM X RX7 cX7_keep 3 1 22 (some .int) := hG
  show J TM X 3 0 [some (aR 0), some (aI q), none] [] μ0
  refine J.aload_n hG dX7_keep_0 rfl rfl ?_
  refine J.iconst hG dX7_keep_1 (by decide) ?_
  refine J.putI hG ciX7 rfl 0 0 rfl (Nat.le_of_ble_eq_true rfl) rfl fl_X7_75 rfl rfl dX7_keep_2 ?_
  show J TM X 3 5 [some (aR 0), some (aI q), none] [] (th μ0)
  rw [← hμ]
  refine J.iload_n hG dX7_keep_5 rfl rfl ?_
  refine J.iconst hG dX7_keep_6 (by decide) ?_
  refine J.iconst hG dX7_keep_7 (by decide) ?_
  refine J.callS hG (X7_in _ _ _ _) ok_X7_in ml_X7_78 rfl (Nat.le_of_ble_eq_true rfl) ⟨Nat.le_of_ble_eq_true rfl, Nat.le_of_ble_eq_true rfl⟩ dX7_keep_8 rfl (fun r1 μ1 hp1 => ?_)
  obtain ⟨rfl, rfl⟩ := hp1
  refine J.ifb_ne hG 16 dX7_keep_11 rfl (fun h11 => ?_) (fun h11 => ?_)
  · refine J.iconst hG dX7_keep_16 (by decide) ?_
    refine J.istore_n hG dX7_keep_17 rfl (Nat.le_of_ble_eq_true rfl) ?_
    have lp : ∀ (k : Nat) (i : Int) (ν : Mem), 0 ≤ i → i + k = 26 → (∀ c : Nat, c ≠ 9 → ν c = μ c) → (∀ j : Int, ν 9 j = if 26 * q ≤ j ∧ j < 26 * q + i then μ 7 (j - 26 * q) else μ 9 j) → J TM X 3 18 [some (aR 0), some (aI q), some (aI i)] [] ν := by
      intro k
      induction k with
      | zero =>
        intro i ν i0 i1 hF hA
        have e7 : ν 7 = μ 7 := hF 7 (by decide)
        refine J.iload_n hG dX7_keep_18 rfl rfl ?_
        refine J.bipush hG dX7_keep_19 (by decide) (by decide) ?_
        refine J.icmp_ge hG 47 dX7_keep_21 rfl (fun h21 => ?_) (fun h21 => absurd h21 (by omega))
        refine J.aload_n hG dX7_keep_47 rfl rfl ?_
        refine J.getR hG ciX7 rfl 25 25 rfl (Nat.le_of_ble_eq_true rfl) rfl fl_X7_37 dX7_keep_48 ?_
        refine J.iload_n hG dX7_keep_51 rfl rfl ?_
        refine J.iconst hG dX7_keep_52 (by decide) ?_
        refine J.zast hG rfl (by omega) (by omega) (by first | exact Or.inl rfl | exact Or.inr rfl) dX7_keep_53 ?_
        refine J.aload_n hG dX7_keep_54 rfl rfl ?_
        refine J.getR hG ciX7 rfl 22 22 rfl (Nat.le_of_ble_eq_true rfl) rfl fl_X7_28 dX7_keep_55 ?_
        refine J.bipush hG dX7_keep_58 (by decide) (by decide) ?_
        refine J.iald hG rfl (by omega) (by omega) dX7_keep_60 ?_
        refine J.iret hG dX7_keep_61 ?_
        rw [hX]; dsimp only
        rw [if_neg (by omega)]
        refine ⟨by rw [up_cell _ _ _ (by decide), e7], fun c a b => by rw [up_cell _ _ _ b, hF c a], fun j => by rw [up_cell _ _ _ (by decide), hA j, show i = 26 by omega], fun j => ?_⟩
        by_cases hj : j = q
        · rw [hj, up_self, if_pos rfl]
        · rw [up_ne _ (fun z => hj z.2), if_neg hj, hF 10 (by decide)]
      | succ k ih =>
        intro i ν i0 i1 hF hA
        have e7 : ν 7 = μ 7 := hF 7 (by decide)
        refine J.iload_n hG dX7_keep_18 rfl rfl ?_
        refine J.bipush hG dX7_keep_19 (by decide) (by decide) ?_
        refine J.icmp_ge hG 47 dX7_keep_21 rfl (fun h21 => absurd h21 (by omega)) (fun h21 => ?_)
        refine J.aload_n hG dX7_keep_24 rfl rfl ?_
        refine J.getR hG ciX7 rfl 24 24 rfl (Nat.le_of_ble_eq_true rfl) rfl fl_X7_34 dX7_keep_25 ?_
        refine J.bipush hG dX7_keep_28 (by decide) (by decide) ?_
        refine J.iload_n hG dX7_keep_30 rfl rfl ?_
        refine J.imul hG dX7_keep_31 (fun _ _ => (by omega)) ?_
        refine J.iload_n hG dX7_keep_32 rfl rfl ?_
        refine J.iadd hG dX7_keep_33 (fun _ _ => (by omega)) ?_
        refine J.aload_n hG dX7_keep_34 rfl rfl ?_
        refine J.getR hG ciX7 rfl 22 22 rfl (Nat.le_of_ble_eq_true rfl) rfl fl_X7_28 dX7_keep_35 ?_
        refine J.iload_n hG dX7_keep_38 rfl rfl ?_
        refine J.iald hG rfl (by omega) (by omega) dX7_keep_39 ?_
        refine J.iast hG rfl (by omega) (by omega) dX7_keep_40 ?_
        refine J.iinc hG dX7_keep_41 (Nat.le_of_ble_eq_true rfl) rfl (fun _ => (by omega)) ?_
        refine J.goto hG 18 dX7_keep_44 rfl ?_
        refine ih (i + 1) _ (by omega) (by omega) (fun c hc => by rw [up_cell _ _ _ hc]; exact hF c hc) (fun j => ?_)
        by_cases hj : j = 26 * q + i
        · rw [hj, up_self, if_pos (by omega), e7]; congr 1; omega
        · rw [up_ne _ (fun z => hj z.2), hA j]
          by_cases h2 : 26 * q ≤ j ∧ j < 26 * q + i
          · rw [if_pos h2, if_pos (by omega)]
          · rw [if_neg h2, if_neg (by omega)]
    exact lp 26 0 _ (Int.le_refl _) (by omega) (fun _ _ => rfl) (fun j => by rw [if_neg (by omega)])
  · refine J.iconst hG dX7_keep_14 (by decide) ?_
    refine J.iret hG dX7_keep_15 ?_
    rw [hX]; dsimp only
    rw [if_pos (by omega)]
    exact ⟨rfl, rfl⟩

set_option maxRecDepth 100000 in
set_option maxHeartbeats 4000000 in
theorem X7_back (μ0 μ : Mem) (hμ : μ = th μ0) (q : Int) : CT TM md_X7_back [aR 0, aI q] μ0 (fun rv μ1 => if ¬ (0 ≤ q ∧ q ≤ 1) then rv = some (aI (-1)) ∧ μ1 = μ else if μ 10 q = 0 then rv = some (aI (-2)) ∧ μ1 = μ else rv = some (aI (μ 9 (26 * q + 24))) ∧ (∀ c : Nat, c ≠ 7 → μ1 c = up μ 0 27 0 c) ∧ Blk 9 (26 * q) μ μ1) := by
  refine CT.of (Nat.le_of_ble_eq_true rfl) (by decide) rfl (Nat.le_of_ble_eq_true rfl) (fun X hG hX => ?_)
  have hG : G TM X RX7 cX7_back 3 1 22 (some .int) := hG
  show J TM X 3 0 [some (aR 0), some (aI q), none] [] μ0
  refine J.aload_n hG dX7_back_0 rfl rfl ?_
  refine J.iconst hG dX7_back_1 (by decide) ?_
  refine J.putI hG ciX7 rfl 0 0 rfl (Nat.le_of_ble_eq_true rfl) rfl fl_X7_75 rfl rfl dX7_back_2 ?_
  show J TM X 3 5 [some (aR 0), some (aI q), none] [] (th μ0)
  rw [← hμ]
  refine J.iload_n hG dX7_back_5 rfl rfl ?_
  refine J.iconst hG dX7_back_6 (by decide) ?_
  refine J.iconst hG dX7_back_7 (by decide) ?_
  refine J.callS hG (X7_in _ _ _ _) ok_X7_in ml_X7_78 rfl (Nat.le_of_ble_eq_true rfl) ⟨Nat.le_of_ble_eq_true rfl, Nat.le_of_ble_eq_true rfl⟩ dX7_back_8 rfl (fun r1 μ1 hp1 => ?_)
  obtain ⟨rfl, rfl⟩ := hp1
  refine J.ifb_ne hG 16 dX7_back_11 rfl (fun h11 => ?_) (fun h11 => ?_)
  · refine J.aload_n hG dX7_back_16 rfl rfl ?_
    refine J.getR hG ciX7 rfl 25 25 rfl (Nat.le_of_ble_eq_true rfl) rfl fl_X7_37 dX7_back_17 ?_
    refine J.iload_n hG dX7_back_20 rfl rfl ?_
    refine J.zald hG rfl (by omega) (by omega) dX7_back_21 ?_
    refine J.if_ne hG 28 dX7_back_22 rfl (fun h22 => ?_) (fun h22 => ?_)
    · refine J.iconst hG dX7_back_28 (by decide) ?_
      refine J.istore_n hG dX7_back_29 rfl (Nat.le_of_ble_eq_true rfl) ?_
      have h22 : ¬ μ 10 q = 0 := by omega
      have lp : ∀ (k : Nat) (i : Int) (ν : Mem), 0 ≤ i → i + k = 26 → (∀ c : Nat, c ≠ 7 → ν c = μ c) → (∀ j : Int, 0 ≤ j → j < i → ν 7 j = μ 9 (26 * q + j)) → J TM X 3 30 [some (aR 0), some (aI q), some (aI i)] [] ν := by
        intro k
        induction k with
        | zero =>
          intro i ν i0 i1 hF hA
          refine J.iload_n hG dX7_back_30 rfl rfl ?_
          refine J.bipush hG dX7_back_31 (by decide) (by decide) ?_
          refine J.icmp_ge hG 59 dX7_back_33 rfl (fun h33 => ?_) (fun h33 => absurd h33 (by omega))
          refine J.aload_n hG dX7_back_59 rfl rfl ?_
          refine J.iconst hG dX7_back_60 (by decide) ?_
          refine J.putI hG ciX7 rfl 27 27 rfl (Nat.le_of_ble_eq_true rfl) rfl fl_X7_150 rfl rfl dX7_back_61 ?_
          refine J.aload_n hG dX7_back_64 rfl rfl ?_
          refine J.getR hG ciX7 rfl 22 22 rfl (Nat.le_of_ble_eq_true rfl) rfl fl_X7_28 dX7_back_65 ?_
          refine J.bipush hG dX7_back_68 (by decide) (by decide) ?_
          refine J.iald hG rfl (by omega) (by omega) dX7_back_70 ?_
          refine J.iret hG dX7_back_71 ?_
          rw [hX]; dsimp only
          rw [if_neg (by omega), if_neg h22]
          exact ⟨by rw [up_cell _ _ _ (by decide), hA 24 (by decide) (by omega)], fun c a => by by_cases h0 : c = 0; subst h0; funext j; by_cases hj : j = 27; rw [hj, up_self, up_self]; rw [up_ne _ (fun z => hj z.2), up_ne _ (fun z => hj z.2), hF 0 (by decide)]; rw [up_cell _ _ _ h0, up_cell _ _ _ h0, hF c a], fun j a b => by rw [up_cell _ _ _ (by decide)]; exact hA j a (by omega)⟩
        | succ k ih =>
          intro i ν i0 i1 hF hA
          have e9 : ν 9 = μ 9 := hF 9 (by decide)
          refine J.iload_n hG dX7_back_30 rfl rfl ?_
          refine J.bipush hG dX7_back_31 (by decide) (by decide) ?_
          refine J.icmp_ge hG 59 dX7_back_33 rfl (fun h33 => absurd h33 (by omega)) (fun h33 => ?_)
          refine J.aload_n hG dX7_back_36 rfl rfl ?_
          refine J.getR hG ciX7 rfl 22 22 rfl (Nat.le_of_ble_eq_true rfl) rfl fl_X7_28 dX7_back_37 ?_
          refine J.iload_n hG dX7_back_40 rfl rfl ?_
          refine J.aload_n hG dX7_back_41 rfl rfl ?_
          refine J.getR hG ciX7 rfl 24 24 rfl (Nat.le_of_ble_eq_true rfl) rfl fl_X7_34 dX7_back_42 ?_
          refine J.bipush hG dX7_back_45 (by decide) (by decide) ?_
          refine J.iload_n hG dX7_back_47 rfl rfl ?_
          refine J.imul hG dX7_back_48 (fun _ _ => (by omega)) ?_
          refine J.iload_n hG dX7_back_49 rfl rfl ?_
          refine J.iadd hG dX7_back_50 (fun _ _ => (by omega)) ?_
          refine J.iald hG rfl (by omega) (by omega) dX7_back_51 ?_
          refine J.iast hG rfl (by omega) (by omega) dX7_back_52 ?_
          refine J.iinc hG dX7_back_53 (Nat.le_of_ble_eq_true rfl) rfl (fun _ => (by omega)) ?_
          refine J.goto hG 30 dX7_back_56 rfl ?_
          exact ih (i + 1) _ (by omega) (by omega) (fun c hc => by rw [up_cell _ _ _ hc]; exact hF c hc) (fun j a b => by by_cases hj : j = i; rw [hj, up_self, e9]; rw [up_ne _ (fun z => hj z.2)]; exact hA j a (by omega))
      exact lp 26 0 _ (Int.le_refl _) (by omega) (fun _ _ => rfl) (fun j a b => absurd b (by omega))
    · refine J.bipush hG dX7_back_25 (by decide) (by decide) ?_
      refine J.iret hG dX7_back_27 ?_
      rw [hX]; dsimp only
      rw [if_neg (by omega), if_pos (by omega)]
      exact ⟨rfl, rfl⟩
  · refine J.iconst hG dX7_back_14 (by decide) ?_
    refine J.iret hG dX7_back_15 ?_
    rw [hX]; dsimp only
    rw [if_pos (by omega)]
    exact ⟨rfl, rfl⟩

def mS (μ : Mem) (l : Int) : Int := smf (fun s => μ 7 (8 + 4 * l + s)) 0 (μ 0 14).toNat
theorem mS_bound {μ : Mem} (hB : MB μ) (l : Int) (hl : 0 ≤ l ∧ l < μ 0 15) : 0 ≤ mS μ l ∧ mS μ l ≤ 120 := by
  obtain ⟨h1, h2, h3, h4, h5, h6⟩ := hB
  have := smf_bound (f := fun s => μ 7 (8 + 4 * l + s)) (a := 0) (b := 30) (μ 0 14).toNat 0 (fun i a b => by
    have q5 := h5 i (by omega) (by omega)
    have q6 := h6 l i hl.1 hl.2 (by omega) (by omega)
    omega)
  unfold mS
  omega

set_option maxRecDepth 100000 in
set_option maxHeartbeats 4000000 in
theorem X7_rate (μ0 μ : Mem) (hμ : μ = th μ0) (hB : MB μ) (w l : Int) : CT TM md_X7_rate [aR 0, aI w, aI l] μ0 (fun rv μ1 => if ¬ (0 ≤ l ∧ l < μ 0 15) ∨ ¬ (0 ≤ w ∧ w ≤ 5) then rv = some (aI (-1000000)) ∧ μ1 = μ else rv = some (aI (if w = 0 then mS μ l else if w = 1 then mS μ l + mC μ 1 l else if w = 2 then mS μ l - mC μ 2 l else if w = 3 then 2 * (mS μ l + mC μ 1 l) else if w = 4 then mS μ l - mC μ 2 l + l else mS μ l + μ 0 17)) ∧ μ1 = up μ 1000 1 (μ 1000 1 + (if w = 0 then 1 else if w = 1 then 11 else if w = 2 then 101 else if w = 3 then 1011 else if w = 4 then 10101 else 100001))) := by
  refine CT.of (Nat.le_of_ble_eq_true rfl) (by decide) rfl (Nat.le_of_ble_eq_true rfl) (fun X hG hX => ?_)
  have hG : G TM X RX7 cX7_rate 6 4 93 (some .int) := hG
  show J TM X 6 0 [some (aR 0), some (aI w), some (aI l), none, none, none] [] μ0
  refine J.aload_n hG dX7_rate_0 rfl rfl ?_
  refine J.iconst hG dX7_rate_1 (by decide) ?_
  refine J.putI hG ciX7 rfl 0 0 rfl (Nat.le_of_ble_eq_true rfl) rfl fl_X7_75 rfl rfl dX7_rate_2 ?_
  show J TM X 6 5 [some (aR 0), some (aI w), some (aI l), none, none, none] [] (th μ0)
  rw [← hμ]
  have hB2 := hB
  obtain ⟨h1, h2, h3, h4, h5, h6⟩ := hB2
  refine J.iload_n hG dX7_rate_5 rfl rfl ?_
  refine J.iconst hG dX7_rate_6 (by decide) ?_
  refine J.iconst hG dX7_rate_7 (by decide) ?_
  refine J.callS hG (X7_in _ _ _ _) ok_X7_in ml_X7_78 rfl (Nat.le_of_ble_eq_true rfl) ⟨Nat.le_of_ble_eq_true rfl, Nat.le_of_ble_eq_true rfl⟩ dX7_rate_8 rfl (fun r1 μ1 hp1 => ?_)
  obtain ⟨rfl, rfl⟩ := hp1
  refine J.ifb_eq hG 22 dX7_rate_11 rfl (fun h11 => ?_) (fun h11 => ?_)
  · refine J.ldc hG (n := -1000000) dX7_rate_22 ct_X7_214 (by decide) (by decide) ?_
    refine J.iret hG dX7_rate_24 ?_
    rw [hX]; dsimp only
    rw [if_pos (by omega)]
    exact ⟨rfl, rfl⟩
  · refine J.aload_n hG dX7_rate_14 rfl rfl ?_
    refine J.iload_n hG dX7_rate_15 rfl rfl ?_
    refine J.callV hG (X7_isLife _ _ (by omega)) ok_X7_isLife ml_X7_171 rfl rfl rfl rfl (Nat.le_of_ble_eq_true rfl) ⟨Nat.le_of_ble_eq_true rfl, Nat.le_of_ble_eq_true rfl⟩ dX7_rate_16 rfl (fun r1 μ1 hp1 => ?_)
    obtain ⟨rfl, rfl⟩ := hp1
    refine J.ifb_ne hG 25 dX7_rate_19 rfl (fun h19 => ?_) (fun h19 => ?_)
    · refine J.iconst hG dX7_rate_25 (by decide) ?_
      refine J.istore_n hG dX7_rate_26 rfl (Nat.le_of_ble_eq_true rfl) ?_
      refine J.iconst hG dX7_rate_27 (by decide) ?_
      refine J.istore hG dX7_rate_28 (Nat.le_of_ble_eq_true rfl) ?_
      have sb := mS_bound hB l (by omega)
      have c1 := mC_bound μ 1 l h1
      have c2 := mC_bound μ 2 l h1
      have lp : ∀ (k : Nat) (s : Int) (a : Int), 0 ≤ s → s + k = μ 0 14 → (0 ≤ a ∧ a ≤ 30 * s) → (a + smf (fun s => μ 7 (8 + 4 * l + s)) s k = mS μ l) → J TM X 6 30 [some (aR 0), some (aI w), some (aI l), some (aI a), some (aI s), none] [] μ := by
        intro k
        induction k with
        | zero =>
          intro s a i0 i1 i2 i3
          simp only [smf] at i3
          have ea : a = mS μ l := by omega
          subst ea
          refine J.iload hG dX7_rate_30 rfl ?_
          refine J.aload_n hG dX7_rate_32 rfl rfl ?_
          refine J.getI hG ciX7 rfl 14 14 rfl (Nat.le_of_ble_eq_true rfl) rfl fl_X7_141 dX7_rate_33 ?_
          refine J.icmp_ge hG 62 dX7_rate_36 rfl (fun h36 => ?_) (fun h36 => absurd h36 (by omega))
          refine J.iload_n hG dX7_rate_62 rfl rfl ?_
          refine J.aload_n hG dX7_rate_63 rfl rfl ?_
          refine J.iload_n hG dX7_rate_64 rfl rfl ?_
          refine J.iconst hG dX7_rate_65 (by decide) ?_
          refine J.callV hG (X7_countEnds _ hB _ _ (by omega)) ok_X7_countEnds ml_X7_204 rfl rfl rfl rfl (Nat.le_of_ble_eq_true rfl) ⟨Nat.le_of_ble_eq_true rfl, Nat.le_of_ble_eq_true rfl⟩ dX7_rate_66 rfl (fun r1 μ1 hp1 => ?_)
          obtain ⟨rfl, rfl⟩ := hp1
          refine J.iadd hG dX7_rate_69 (fun _ _ => (by first | omega | ((try rw [up_cell _ _ _ (by decide)]); omega))) ?_
          refine J.istore hG dX7_rate_70 (Nat.le_of_ble_eq_true rfl) ?_
          refine J.iload_n hG dX7_rate_72 rfl rfl ?_
          refine J.aload_n hG dX7_rate_73 rfl rfl ?_
          refine J.iload_n hG dX7_rate_74 rfl rfl ?_
          refine J.iconst hG dX7_rate_75 (by decide) ?_
          refine J.callV hG (X7_countEnds _ hB _ _ (by omega)) ok_X7_countEnds ml_X7_204 rfl rfl rfl rfl (Nat.le_of_ble_eq_true rfl) ⟨Nat.le_of_ble_eq_true rfl, Nat.le_of_ble_eq_true rfl⟩ dX7_rate_76 rfl (fun r1 μ1 hp1 => ?_)
          obtain ⟨rfl, rfl⟩ := hp1
          refine J.isub hG dX7_rate_79 (fun _ _ => (by first | omega | ((try rw [up_cell _ _ _ (by decide)]); omega))) ?_
          refine J.istore hG dX7_rate_80 (Nat.le_of_ble_eq_true rfl) ?_
          refine J.aload_n hG dX7_rate_82 rfl rfl ?_
          refine J.dup hG dX7_rate_83 (fun _ => rfl) ?_
          refine J.getL hG ciX7 rfl 1 1 rfl (Nat.le_of_ble_eq_true rfl) 1000 rfl rfl fl_X7_251 dX7_rate_84 ?_
          refine J.iload_n hG dX7_rate_87 rfl rfl ?_
          refine J.if_ne hG 95 dX7_rate_88 rfl (fun h88 => ?_) (fun h88 => ?_)
          · refine J.iload_n hG dX7_rate_95 rfl rfl ?_
            refine J.iconst hG dX7_rate_96 (by decide) ?_
            refine J.icmp_ne hG 106 dX7_rate_97 rfl (fun h97 => ?_) (fun h97 => ?_)
            · refine J.iload_n hG dX7_rate_106 rfl rfl ?_
              refine J.iconst hG dX7_rate_107 (by decide) ?_
              refine J.icmp_ne hG 117 dX7_rate_108 rfl (fun h108 => ?_) (fun h108 => ?_)
              · refine J.iload_n hG dX7_rate_117 rfl rfl ?_
                refine J.iconst hG dX7_rate_118 (by decide) ?_
                refine J.icmp_ne hG 128 dX7_rate_119 rfl (fun h119 => ?_) (fun h119 => ?_)
                · refine J.iload_n hG dX7_rate_128 rfl rfl ?_
                  refine J.iconst hG dX7_rate_129 (by decide) ?_
                  refine J.icmp_ne hG 139 dX7_rate_130 rfl (fun h130 => ?_) (fun h130 => ?_)
                  · refine J.ldc2 hG (n := 100001) dX7_rate_139 ct_X7_263 (by decide) ?_
                    refine J.ladd hG dX7_rate_142 ?_
                    refine J.putL hG ciX7 rfl 1 1 rfl (Nat.le_of_ble_eq_true rfl) 1000 rfl rfl fl_X7_251 rfl rfl dX7_rate_143 ?_
                    refine J.iload_n hG dX7_rate_146 rfl rfl ?_
                    refine J.if_ne hG 154 dX7_rate_147 rfl (fun h147 => ?_) (fun h147 => ?_)
                    · refine J.iload_n hG dX7_rate_154 rfl rfl ?_
                      refine J.iconst hG dX7_rate_155 (by decide) ?_
                      refine J.icmp_ne hG 164 dX7_rate_156 rfl (fun h156 => ?_) (fun h156 => ?_)
                      · refine J.iload_n hG dX7_rate_164 rfl rfl ?_
                        refine J.iconst hG dX7_rate_165 (by decide) ?_
                        refine J.icmp_ne hG 174 dX7_rate_166 rfl (fun h166 => ?_) (fun h166 => ?_)
                        · refine J.iload_n hG dX7_rate_174 rfl rfl ?_
                          refine J.iconst hG dX7_rate_175 (by decide) ?_
                          refine J.icmp_ne hG 186 dX7_rate_176 rfl (fun h176 => ?_) (fun h176 => ?_)
                          · refine J.iload_n hG dX7_rate_186 rfl rfl ?_
                            refine J.iconst hG dX7_rate_187 (by decide) ?_
                            refine J.icmp_ne hG 198 dX7_rate_188 rfl (fun h188 => ?_) (fun h188 => ?_)
                            · refine J.iload_n hG dX7_rate_198 rfl rfl ?_
                              refine J.aload_n hG dX7_rate_199 rfl rfl ?_
                              refine J.getI hG ciX7 rfl 17 17 rfl (Nat.le_of_ble_eq_true rfl) rfl fl_X7_71 dX7_rate_200 ?_
                              refine J.iadd hG dX7_rate_203 (fun _ _ => (by first | omega | ((try rw [up_cell _ _ _ (by decide)]); omega))) ?_
                              refine J.iret hG dX7_rate_204 ?_
                              rw [hX]; dsimp only
                              rw [if_neg (by omega)]
                              refine ⟨?_, ?_⟩
                              · congr 2; (repeat' split) <;> first | rfl | (exfalso; omega)
                              · congr 2; (repeat' split) <;> first | rfl | (exfalso; omega)
                            · refine J.iload hG dX7_rate_191 rfl ?_
                              refine J.iload_n hG dX7_rate_193 rfl rfl ?_
                              refine J.iadd hG dX7_rate_194 (fun _ _ => (by first | omega | ((try rw [up_cell _ _ _ (by decide)]); omega))) ?_
                              refine J.goto hG 204 dX7_rate_195 rfl ?_
                              refine J.iret hG dX7_rate_204 ?_
                              rw [hX]; dsimp only
                              rw [if_neg (by omega)]
                              refine ⟨?_, ?_⟩
                              · congr 2; (repeat' split) <;> first | rfl | (exfalso; omega)
                              · congr 2; (repeat' split) <;> first | rfl | (exfalso; omega)
                          · refine J.iconst hG dX7_rate_179 (by decide) ?_
                            refine J.iload hG dX7_rate_180 rfl ?_
                            refine J.imul hG dX7_rate_182 (fun _ _ => (by first | omega | ((try rw [up_cell _ _ _ (by decide)]); omega))) ?_
                            refine J.goto hG 204 dX7_rate_183 rfl ?_
                            refine J.iret hG dX7_rate_204 ?_
                            rw [hX]; dsimp only
                            rw [if_neg (by omega)]
                            refine ⟨?_, ?_⟩
                            · congr 2; (repeat' split) <;> first | rfl | (exfalso; omega)
                            · congr 2; (repeat' split) <;> first | rfl | (exfalso; omega)
                        · refine J.iload hG dX7_rate_169 rfl ?_
                          refine J.goto hG 204 dX7_rate_171 rfl ?_
                          refine J.iret hG dX7_rate_204 ?_
                          rw [hX]; dsimp only
                          rw [if_neg (by omega)]
                          refine ⟨?_, ?_⟩
                          · congr 2; (repeat' split) <;> first | rfl | (exfalso; omega)
                          · congr 2; (repeat' split) <;> first | rfl | (exfalso; omega)
                      · refine J.iload hG dX7_rate_159 rfl ?_
                        refine J.goto hG 204 dX7_rate_161 rfl ?_
                        refine J.iret hG dX7_rate_204 ?_
                        rw [hX]; dsimp only
                        rw [if_neg (by omega)]
                        refine ⟨?_, ?_⟩
                        · congr 2; (repeat' split) <;> first | rfl | (exfalso; omega)
                        · congr 2; (repeat' split) <;> first | rfl | (exfalso; omega)
                    · refine J.iload_n hG dX7_rate_150 rfl rfl ?_
                      refine J.goto hG 204 dX7_rate_151 rfl ?_
                      refine J.iret hG dX7_rate_204 ?_
                      rw [hX]; dsimp only
                      rw [if_neg (by omega)]
                      refine ⟨?_, ?_⟩
                      · congr 2; (repeat' split) <;> first | rfl | (exfalso; omega)
                      · congr 2; (repeat' split) <;> first | rfl | (exfalso; omega)
                  · refine J.ldc2 hG (n := 10101) dX7_rate_133 ct_X7_261 (by decide) ?_
                    refine J.goto hG 142 dX7_rate_136 rfl ?_
                    refine J.ladd hG dX7_rate_142 ?_
                    refine J.putL hG ciX7 rfl 1 1 rfl (Nat.le_of_ble_eq_true rfl) 1000 rfl rfl fl_X7_251 rfl rfl dX7_rate_143 ?_
                    refine J.iload_n hG dX7_rate_146 rfl rfl ?_
                    refine J.if_ne hG 154 dX7_rate_147 rfl (fun h147 => ?_) (fun h147 => ?_)
                    · refine J.iload_n hG dX7_rate_154 rfl rfl ?_
                      refine J.iconst hG dX7_rate_155 (by decide) ?_
                      refine J.icmp_ne hG 164 dX7_rate_156 rfl (fun h156 => ?_) (fun h156 => ?_)
                      · refine J.iload_n hG dX7_rate_164 rfl rfl ?_
                        refine J.iconst hG dX7_rate_165 (by decide) ?_
                        refine J.icmp_ne hG 174 dX7_rate_166 rfl (fun h166 => ?_) (fun h166 => ?_)
                        · refine J.iload_n hG dX7_rate_174 rfl rfl ?_
                          refine J.iconst hG dX7_rate_175 (by decide) ?_
                          refine J.icmp_ne hG 186 dX7_rate_176 rfl (fun h176 => ?_) (fun h176 => ?_)
                          · refine J.iload_n hG dX7_rate_186 rfl rfl ?_
                            refine J.iconst hG dX7_rate_187 (by decide) ?_
                            refine J.icmp_ne hG 198 dX7_rate_188 rfl (fun h188 => ?_) (fun h188 => ?_)
                            · refine J.iload_n hG dX7_rate_198 rfl rfl ?_
                              refine J.aload_n hG dX7_rate_199 rfl rfl ?_
                              refine J.getI hG ciX7 rfl 17 17 rfl (Nat.le_of_ble_eq_true rfl) rfl fl_X7_71 dX7_rate_200 ?_
                              refine J.iadd hG dX7_rate_203 (fun _ _ => (by first | omega | ((try rw [up_cell _ _ _ (by decide)]); omega))) ?_
                              refine J.iret hG dX7_rate_204 ?_
                              rw [hX]; dsimp only
                              rw [if_neg (by omega)]
                              refine ⟨?_, ?_⟩
                              · congr 2; (repeat' split) <;> first | rfl | (exfalso; omega)
                              · congr 2; (repeat' split) <;> first | rfl | (exfalso; omega)
                            · refine J.iload hG dX7_rate_191 rfl ?_
                              refine J.iload_n hG dX7_rate_193 rfl rfl ?_
                              refine J.iadd hG dX7_rate_194 (fun _ _ => (by first | omega | ((try rw [up_cell _ _ _ (by decide)]); omega))) ?_
                              refine J.goto hG 204 dX7_rate_195 rfl ?_
                              refine J.iret hG dX7_rate_204 ?_
                              rw [hX]; dsimp only
                              rw [if_neg (by omega)]
                              refine ⟨?_, ?_⟩
                              · congr 2; (repeat' split) <;> first | rfl | (exfalso; omega)
                              · congr 2; (repeat' split) <;> first | rfl | (exfalso; omega)
                          · refine J.iconst hG dX7_rate_179 (by decide) ?_
                            refine J.iload hG dX7_rate_180 rfl ?_
                            refine J.imul hG dX7_rate_182 (fun _ _ => (by first | omega | ((try rw [up_cell _ _ _ (by decide)]); omega))) ?_
                            refine J.goto hG 204 dX7_rate_183 rfl ?_
                            refine J.iret hG dX7_rate_204 ?_
                            rw [hX]; dsimp only
                            rw [if_neg (by omega)]
                            refine ⟨?_, ?_⟩
                            · congr 2; (repeat' split) <;> first | rfl | (exfalso; omega)
                            · congr 2; (repeat' split) <;> first | rfl | (exfalso; omega)
                        · refine J.iload hG dX7_rate_169 rfl ?_
                          refine J.goto hG 204 dX7_rate_171 rfl ?_
                          refine J.iret hG dX7_rate_204 ?_
                          rw [hX]; dsimp only
                          rw [if_neg (by omega)]
                          refine ⟨?_, ?_⟩
                          · congr 2; (repeat' split) <;> first | rfl | (exfalso; omega)
                          · congr 2; (repeat' split) <;> first | rfl | (exfalso; omega)
                      · refine J.iload hG dX7_rate_159 rfl ?_
                        refine J.goto hG 204 dX7_rate_161 rfl ?_
                        refine J.iret hG dX7_rate_204 ?_
                        rw [hX]; dsimp only
                        rw [if_neg (by omega)]
                        refine ⟨?_, ?_⟩
                        · congr 2; (repeat' split) <;> first | rfl | (exfalso; omega)
                        · congr 2; (repeat' split) <;> first | rfl | (exfalso; omega)
                    · refine J.iload_n hG dX7_rate_150 rfl rfl ?_
                      refine J.goto hG 204 dX7_rate_151 rfl ?_
                      refine J.iret hG dX7_rate_204 ?_
                      rw [hX]; dsimp only
                      rw [if_neg (by omega)]
                      refine ⟨?_, ?_⟩
                      · congr 2; (repeat' split) <;> first | rfl | (exfalso; omega)
                      · congr 2; (repeat' split) <;> first | rfl | (exfalso; omega)
                · refine J.ldc2 hG (n := 1011) dX7_rate_122 ct_X7_259 (by decide) ?_
                  refine J.goto hG 142 dX7_rate_125 rfl ?_
                  refine J.ladd hG dX7_rate_142 ?_
                  refine J.putL hG ciX7 rfl 1 1 rfl (Nat.le_of_ble_eq_true rfl) 1000 rfl rfl fl_X7_251 rfl rfl dX7_rate_143 ?_
                  refine J.iload_n hG dX7_rate_146 rfl rfl ?_
                  refine J.if_ne hG 154 dX7_rate_147 rfl (fun h147 => ?_) (fun h147 => ?_)
                  · refine J.iload_n hG dX7_rate_154 rfl rfl ?_
                    refine J.iconst hG dX7_rate_155 (by decide) ?_
                    refine J.icmp_ne hG 164 dX7_rate_156 rfl (fun h156 => ?_) (fun h156 => ?_)
                    · refine J.iload_n hG dX7_rate_164 rfl rfl ?_
                      refine J.iconst hG dX7_rate_165 (by decide) ?_
                      refine J.icmp_ne hG 174 dX7_rate_166 rfl (fun h166 => ?_) (fun h166 => ?_)
                      · refine J.iload_n hG dX7_rate_174 rfl rfl ?_
                        refine J.iconst hG dX7_rate_175 (by decide) ?_
                        refine J.icmp_ne hG 186 dX7_rate_176 rfl (fun h176 => ?_) (fun h176 => ?_)
                        · refine J.iload_n hG dX7_rate_186 rfl rfl ?_
                          refine J.iconst hG dX7_rate_187 (by decide) ?_
                          refine J.icmp_ne hG 198 dX7_rate_188 rfl (fun h188 => ?_) (fun h188 => ?_)
                          · refine J.iload_n hG dX7_rate_198 rfl rfl ?_
                            refine J.aload_n hG dX7_rate_199 rfl rfl ?_
                            refine J.getI hG ciX7 rfl 17 17 rfl (Nat.le_of_ble_eq_true rfl) rfl fl_X7_71 dX7_rate_200 ?_
                            refine J.iadd hG dX7_rate_203 (fun _ _ => (by first | omega | ((try rw [up_cell _ _ _ (by decide)]); omega))) ?_
                            refine J.iret hG dX7_rate_204 ?_
                            rw [hX]; dsimp only
                            rw [if_neg (by omega)]
                            refine ⟨?_, ?_⟩
                            · congr 2; (repeat' split) <;> first | rfl | (exfalso; omega)
                            · congr 2; (repeat' split) <;> first | rfl | (exfalso; omega)
                          · refine J.iload hG dX7_rate_191 rfl ?_
                            refine J.iload_n hG dX7_rate_193 rfl rfl ?_
                            refine J.iadd hG dX7_rate_194 (fun _ _ => (by first | omega | ((try rw [up_cell _ _ _ (by decide)]); omega))) ?_
                            refine J.goto hG 204 dX7_rate_195 rfl ?_
                            refine J.iret hG dX7_rate_204 ?_
                            rw [hX]; dsimp only
                            rw [if_neg (by omega)]
                            refine ⟨?_, ?_⟩
                            · congr 2; (repeat' split) <;> first | rfl | (exfalso; omega)
                            · congr 2; (repeat' split) <;> first | rfl | (exfalso; omega)
                        · refine J.iconst hG dX7_rate_179 (by decide) ?_
                          refine J.iload hG dX7_rate_180 rfl ?_
                          refine J.imul hG dX7_rate_182 (fun _ _ => (by first | omega | ((try rw [up_cell _ _ _ (by decide)]); omega))) ?_
                          refine J.goto hG 204 dX7_rate_183 rfl ?_
                          refine J.iret hG dX7_rate_204 ?_
                          rw [hX]; dsimp only
                          rw [if_neg (by omega)]
                          refine ⟨?_, ?_⟩
                          · congr 2; (repeat' split) <;> first | rfl | (exfalso; omega)
                          · congr 2; (repeat' split) <;> first | rfl | (exfalso; omega)
                      · refine J.iload hG dX7_rate_169 rfl ?_
                        refine J.goto hG 204 dX7_rate_171 rfl ?_
                        refine J.iret hG dX7_rate_204 ?_
                        rw [hX]; dsimp only
                        rw [if_neg (by omega)]
                        refine ⟨?_, ?_⟩
                        · congr 2; (repeat' split) <;> first | rfl | (exfalso; omega)
                        · congr 2; (repeat' split) <;> first | rfl | (exfalso; omega)
                    · refine J.iload hG dX7_rate_159 rfl ?_
                      refine J.goto hG 204 dX7_rate_161 rfl ?_
                      refine J.iret hG dX7_rate_204 ?_
                      rw [hX]; dsimp only
                      rw [if_neg (by omega)]
                      refine ⟨?_, ?_⟩
                      · congr 2; (repeat' split) <;> first | rfl | (exfalso; omega)
                      · congr 2; (repeat' split) <;> first | rfl | (exfalso; omega)
                  · refine J.iload_n hG dX7_rate_150 rfl rfl ?_
                    refine J.goto hG 204 dX7_rate_151 rfl ?_
                    refine J.iret hG dX7_rate_204 ?_
                    rw [hX]; dsimp only
                    rw [if_neg (by omega)]
                    refine ⟨?_, ?_⟩
                    · congr 2; (repeat' split) <;> first | rfl | (exfalso; omega)
                    · congr 2; (repeat' split) <;> first | rfl | (exfalso; omega)
              · refine J.ldc2 hG (n := 101) dX7_rate_111 ct_X7_257 (by decide) ?_
                refine J.goto hG 142 dX7_rate_114 rfl ?_
                refine J.ladd hG dX7_rate_142 ?_
                refine J.putL hG ciX7 rfl 1 1 rfl (Nat.le_of_ble_eq_true rfl) 1000 rfl rfl fl_X7_251 rfl rfl dX7_rate_143 ?_
                refine J.iload_n hG dX7_rate_146 rfl rfl ?_
                refine J.if_ne hG 154 dX7_rate_147 rfl (fun h147 => ?_) (fun h147 => ?_)
                · refine J.iload_n hG dX7_rate_154 rfl rfl ?_
                  refine J.iconst hG dX7_rate_155 (by decide) ?_
                  refine J.icmp_ne hG 164 dX7_rate_156 rfl (fun h156 => ?_) (fun h156 => ?_)
                  · refine J.iload_n hG dX7_rate_164 rfl rfl ?_
                    refine J.iconst hG dX7_rate_165 (by decide) ?_
                    refine J.icmp_ne hG 174 dX7_rate_166 rfl (fun h166 => ?_) (fun h166 => ?_)
                    · refine J.iload_n hG dX7_rate_174 rfl rfl ?_
                      refine J.iconst hG dX7_rate_175 (by decide) ?_
                      refine J.icmp_ne hG 186 dX7_rate_176 rfl (fun h176 => ?_) (fun h176 => ?_)
                      · refine J.iload_n hG dX7_rate_186 rfl rfl ?_
                        refine J.iconst hG dX7_rate_187 (by decide) ?_
                        refine J.icmp_ne hG 198 dX7_rate_188 rfl (fun h188 => ?_) (fun h188 => ?_)
                        · refine J.iload_n hG dX7_rate_198 rfl rfl ?_
                          refine J.aload_n hG dX7_rate_199 rfl rfl ?_
                          refine J.getI hG ciX7 rfl 17 17 rfl (Nat.le_of_ble_eq_true rfl) rfl fl_X7_71 dX7_rate_200 ?_
                          refine J.iadd hG dX7_rate_203 (fun _ _ => (by first | omega | ((try rw [up_cell _ _ _ (by decide)]); omega))) ?_
                          refine J.iret hG dX7_rate_204 ?_
                          rw [hX]; dsimp only
                          rw [if_neg (by omega)]
                          refine ⟨?_, ?_⟩
                          · congr 2; (repeat' split) <;> first | rfl | (exfalso; omega)
                          · congr 2; (repeat' split) <;> first | rfl | (exfalso; omega)
                        · refine J.iload hG dX7_rate_191 rfl ?_
                          refine J.iload_n hG dX7_rate_193 rfl rfl ?_
                          refine J.iadd hG dX7_rate_194 (fun _ _ => (by first | omega | ((try rw [up_cell _ _ _ (by decide)]); omega))) ?_
                          refine J.goto hG 204 dX7_rate_195 rfl ?_
                          refine J.iret hG dX7_rate_204 ?_
                          rw [hX]; dsimp only
                          rw [if_neg (by omega)]
                          refine ⟨?_, ?_⟩
                          · congr 2; (repeat' split) <;> first | rfl | (exfalso; omega)
                          · congr 2; (repeat' split) <;> first | rfl | (exfalso; omega)
                      · refine J.iconst hG dX7_rate_179 (by decide) ?_
                        refine J.iload hG dX7_rate_180 rfl ?_
                        refine J.imul hG dX7_rate_182 (fun _ _ => (by first | omega | ((try rw [up_cell _ _ _ (by decide)]); omega))) ?_
                        refine J.goto hG 204 dX7_rate_183 rfl ?_
                        refine J.iret hG dX7_rate_204 ?_
                        rw [hX]; dsimp only
                        rw [if_neg (by omega)]
                        refine ⟨?_, ?_⟩
                        · congr 2; (repeat' split) <;> first | rfl | (exfalso; omega)
                        · congr 2; (repeat' split) <;> first | rfl | (exfalso; omega)
                    · refine J.iload hG dX7_rate_169 rfl ?_
                      refine J.goto hG 204 dX7_rate_171 rfl ?_
                      refine J.iret hG dX7_rate_204 ?_
                      rw [hX]; dsimp only
                      rw [if_neg (by omega)]
                      refine ⟨?_, ?_⟩
                      · congr 2; (repeat' split) <;> first | rfl | (exfalso; omega)
                      · congr 2; (repeat' split) <;> first | rfl | (exfalso; omega)
                  · refine J.iload hG dX7_rate_159 rfl ?_
                    refine J.goto hG 204 dX7_rate_161 rfl ?_
                    refine J.iret hG dX7_rate_204 ?_
                    rw [hX]; dsimp only
                    rw [if_neg (by omega)]
                    refine ⟨?_, ?_⟩
                    · congr 2; (repeat' split) <;> first | rfl | (exfalso; omega)
                    · congr 2; (repeat' split) <;> first | rfl | (exfalso; omega)
                · refine J.iload_n hG dX7_rate_150 rfl rfl ?_
                  refine J.goto hG 204 dX7_rate_151 rfl ?_
                  refine J.iret hG dX7_rate_204 ?_
                  rw [hX]; dsimp only
                  rw [if_neg (by omega)]
                  refine ⟨?_, ?_⟩
                  · congr 2; (repeat' split) <;> first | rfl | (exfalso; omega)
                  · congr 2; (repeat' split) <;> first | rfl | (exfalso; omega)
            · refine J.ldc2 hG (n := 11) dX7_rate_100 ct_X7_255 (by decide) ?_
              refine J.goto hG 142 dX7_rate_103 rfl ?_
              refine J.ladd hG dX7_rate_142 ?_
              refine J.putL hG ciX7 rfl 1 1 rfl (Nat.le_of_ble_eq_true rfl) 1000 rfl rfl fl_X7_251 rfl rfl dX7_rate_143 ?_
              refine J.iload_n hG dX7_rate_146 rfl rfl ?_
              refine J.if_ne hG 154 dX7_rate_147 rfl (fun h147 => ?_) (fun h147 => ?_)
              · refine J.iload_n hG dX7_rate_154 rfl rfl ?_
                refine J.iconst hG dX7_rate_155 (by decide) ?_
                refine J.icmp_ne hG 164 dX7_rate_156 rfl (fun h156 => ?_) (fun h156 => ?_)
                · refine J.iload_n hG dX7_rate_164 rfl rfl ?_
                  refine J.iconst hG dX7_rate_165 (by decide) ?_
                  refine J.icmp_ne hG 174 dX7_rate_166 rfl (fun h166 => ?_) (fun h166 => ?_)
                  · refine J.iload_n hG dX7_rate_174 rfl rfl ?_
                    refine J.iconst hG dX7_rate_175 (by decide) ?_
                    refine J.icmp_ne hG 186 dX7_rate_176 rfl (fun h176 => ?_) (fun h176 => ?_)
                    · refine J.iload_n hG dX7_rate_186 rfl rfl ?_
                      refine J.iconst hG dX7_rate_187 (by decide) ?_
                      refine J.icmp_ne hG 198 dX7_rate_188 rfl (fun h188 => ?_) (fun h188 => ?_)
                      · refine J.iload_n hG dX7_rate_198 rfl rfl ?_
                        refine J.aload_n hG dX7_rate_199 rfl rfl ?_
                        refine J.getI hG ciX7 rfl 17 17 rfl (Nat.le_of_ble_eq_true rfl) rfl fl_X7_71 dX7_rate_200 ?_
                        refine J.iadd hG dX7_rate_203 (fun _ _ => (by first | omega | ((try rw [up_cell _ _ _ (by decide)]); omega))) ?_
                        refine J.iret hG dX7_rate_204 ?_
                        rw [hX]; dsimp only
                        rw [if_neg (by omega)]
                        refine ⟨?_, ?_⟩
                        · congr 2; (repeat' split) <;> first | rfl | (exfalso; omega)
                        · congr 2; (repeat' split) <;> first | rfl | (exfalso; omega)
                      · refine J.iload hG dX7_rate_191 rfl ?_
                        refine J.iload_n hG dX7_rate_193 rfl rfl ?_
                        refine J.iadd hG dX7_rate_194 (fun _ _ => (by first | omega | ((try rw [up_cell _ _ _ (by decide)]); omega))) ?_
                        refine J.goto hG 204 dX7_rate_195 rfl ?_
                        refine J.iret hG dX7_rate_204 ?_
                        rw [hX]; dsimp only
                        rw [if_neg (by omega)]
                        refine ⟨?_, ?_⟩
                        · congr 2; (repeat' split) <;> first | rfl | (exfalso; omega)
                        · congr 2; (repeat' split) <;> first | rfl | (exfalso; omega)
                    · refine J.iconst hG dX7_rate_179 (by decide) ?_
                      refine J.iload hG dX7_rate_180 rfl ?_
                      refine J.imul hG dX7_rate_182 (fun _ _ => (by first | omega | ((try rw [up_cell _ _ _ (by decide)]); omega))) ?_
                      refine J.goto hG 204 dX7_rate_183 rfl ?_
                      refine J.iret hG dX7_rate_204 ?_
                      rw [hX]; dsimp only
                      rw [if_neg (by omega)]
                      refine ⟨?_, ?_⟩
                      · congr 2; (repeat' split) <;> first | rfl | (exfalso; omega)
                      · congr 2; (repeat' split) <;> first | rfl | (exfalso; omega)
                  · refine J.iload hG dX7_rate_169 rfl ?_
                    refine J.goto hG 204 dX7_rate_171 rfl ?_
                    refine J.iret hG dX7_rate_204 ?_
                    rw [hX]; dsimp only
                    rw [if_neg (by omega)]
                    refine ⟨?_, ?_⟩
                    · congr 2; (repeat' split) <;> first | rfl | (exfalso; omega)
                    · congr 2; (repeat' split) <;> first | rfl | (exfalso; omega)
                · refine J.iload hG dX7_rate_159 rfl ?_
                  refine J.goto hG 204 dX7_rate_161 rfl ?_
                  refine J.iret hG dX7_rate_204 ?_
                  rw [hX]; dsimp only
                  rw [if_neg (by omega)]
                  refine ⟨?_, ?_⟩
                  · congr 2; (repeat' split) <;> first | rfl | (exfalso; omega)
                  · congr 2; (repeat' split) <;> first | rfl | (exfalso; omega)
              · refine J.iload_n hG dX7_rate_150 rfl rfl ?_
                refine J.goto hG 204 dX7_rate_151 rfl ?_
                refine J.iret hG dX7_rate_204 ?_
                rw [hX]; dsimp only
                rw [if_neg (by omega)]
                refine ⟨?_, ?_⟩
                · congr 2; (repeat' split) <;> first | rfl | (exfalso; omega)
                · congr 2; (repeat' split) <;> first | rfl | (exfalso; omega)
          · refine J.lconst hG (z := 1) dX7_rate_91 rfl ?_
            refine J.goto hG 142 dX7_rate_92 rfl ?_
            refine J.ladd hG dX7_rate_142 ?_
            refine J.putL hG ciX7 rfl 1 1 rfl (Nat.le_of_ble_eq_true rfl) 1000 rfl rfl fl_X7_251 rfl rfl dX7_rate_143 ?_
            refine J.iload_n hG dX7_rate_146 rfl rfl ?_
            refine J.if_ne hG 154 dX7_rate_147 rfl (fun h147 => ?_) (fun h147 => ?_)
            · refine J.iload_n hG dX7_rate_154 rfl rfl ?_
              refine J.iconst hG dX7_rate_155 (by decide) ?_
              refine J.icmp_ne hG 164 dX7_rate_156 rfl (fun h156 => ?_) (fun h156 => ?_)
              · refine J.iload_n hG dX7_rate_164 rfl rfl ?_
                refine J.iconst hG dX7_rate_165 (by decide) ?_
                refine J.icmp_ne hG 174 dX7_rate_166 rfl (fun h166 => ?_) (fun h166 => ?_)
                · refine J.iload_n hG dX7_rate_174 rfl rfl ?_
                  refine J.iconst hG dX7_rate_175 (by decide) ?_
                  refine J.icmp_ne hG 186 dX7_rate_176 rfl (fun h176 => ?_) (fun h176 => ?_)
                  · refine J.iload_n hG dX7_rate_186 rfl rfl ?_
                    refine J.iconst hG dX7_rate_187 (by decide) ?_
                    refine J.icmp_ne hG 198 dX7_rate_188 rfl (fun h188 => ?_) (fun h188 => ?_)
                    · refine J.iload_n hG dX7_rate_198 rfl rfl ?_
                      refine J.aload_n hG dX7_rate_199 rfl rfl ?_
                      refine J.getI hG ciX7 rfl 17 17 rfl (Nat.le_of_ble_eq_true rfl) rfl fl_X7_71 dX7_rate_200 ?_
                      refine J.iadd hG dX7_rate_203 (fun _ _ => (by first | omega | ((try rw [up_cell _ _ _ (by decide)]); omega))) ?_
                      refine J.iret hG dX7_rate_204 ?_
                      rw [hX]; dsimp only
                      rw [if_neg (by omega)]
                      refine ⟨?_, ?_⟩
                      · congr 2; (repeat' split) <;> first | rfl | (exfalso; omega)
                      · congr 2; (repeat' split) <;> first | rfl | (exfalso; omega)
                    · refine J.iload hG dX7_rate_191 rfl ?_
                      refine J.iload_n hG dX7_rate_193 rfl rfl ?_
                      refine J.iadd hG dX7_rate_194 (fun _ _ => (by first | omega | ((try rw [up_cell _ _ _ (by decide)]); omega))) ?_
                      refine J.goto hG 204 dX7_rate_195 rfl ?_
                      refine J.iret hG dX7_rate_204 ?_
                      rw [hX]; dsimp only
                      rw [if_neg (by omega)]
                      refine ⟨?_, ?_⟩
                      · congr 2; (repeat' split) <;> first | rfl | (exfalso; omega)
                      · congr 2; (repeat' split) <;> first | rfl | (exfalso; omega)
                  · refine J.iconst hG dX7_rate_179 (by decide) ?_
                    refine J.iload hG dX7_rate_180 rfl ?_
                    refine J.imul hG dX7_rate_182 (fun _ _ => (by first | omega | ((try rw [up_cell _ _ _ (by decide)]); omega))) ?_
                    refine J.goto hG 204 dX7_rate_183 rfl ?_
                    refine J.iret hG dX7_rate_204 ?_
                    rw [hX]; dsimp only
                    rw [if_neg (by omega)]
                    refine ⟨?_, ?_⟩
                    · congr 2; (repeat' split) <;> first | rfl | (exfalso; omega)
                    · congr 2; (repeat' split) <;> first | rfl | (exfalso; omega)
                · refine J.iload hG dX7_rate_169 rfl ?_
                  refine J.goto hG 204 dX7_rate_171 rfl ?_
                  refine J.iret hG dX7_rate_204 ?_
                  rw [hX]; dsimp only
                  rw [if_neg (by omega)]
                  refine ⟨?_, ?_⟩
                  · congr 2; (repeat' split) <;> first | rfl | (exfalso; omega)
                  · congr 2; (repeat' split) <;> first | rfl | (exfalso; omega)
              · refine J.iload hG dX7_rate_159 rfl ?_
                refine J.goto hG 204 dX7_rate_161 rfl ?_
                refine J.iret hG dX7_rate_204 ?_
                rw [hX]; dsimp only
                rw [if_neg (by omega)]
                refine ⟨?_, ?_⟩
                · congr 2; (repeat' split) <;> first | rfl | (exfalso; omega)
                · congr 2; (repeat' split) <;> first | rfl | (exfalso; omega)
            · refine J.iload_n hG dX7_rate_150 rfl rfl ?_
              refine J.goto hG 204 dX7_rate_151 rfl ?_
              refine J.iret hG dX7_rate_204 ?_
              rw [hX]; dsimp only
              rw [if_neg (by omega)]
              refine ⟨?_, ?_⟩
              · congr 2; (repeat' split) <;> first | rfl | (exfalso; omega)
              · congr 2; (repeat' split) <;> first | rfl | (exfalso; omega)
        | succ k ih =>
          intro s a i0 i1 i2 i3
          rw [smf] at i3
          have q5 := h5 s (by omega) (by omega)
          have q6 := h6 l s (by omega) (by omega) (by omega) (by omega)
          refine J.iload hG dX7_rate_30 rfl ?_
          refine J.aload_n hG dX7_rate_32 rfl rfl ?_
          refine J.getI hG ciX7 rfl 14 14 rfl (Nat.le_of_ble_eq_true rfl) rfl fl_X7_141 dX7_rate_33 ?_
          refine J.icmp_ge hG 62 dX7_rate_36 rfl (fun h36 => absurd h36 (by omega)) (fun h36 => ?_)
          refine J.iload_n hG dX7_rate_39 rfl rfl ?_
          refine J.aload_n hG dX7_rate_40 rfl rfl ?_
          refine J.getR hG ciX7 rfl 22 22 rfl (Nat.le_of_ble_eq_true rfl) rfl fl_X7_28 dX7_rate_41 ?_
          refine J.bipush hG dX7_rate_44 (by decide) (by decide) ?_
          refine J.iconst hG dX7_rate_46 (by decide) ?_
          refine J.iload_n hG dX7_rate_47 rfl rfl ?_
          refine J.imul hG dX7_rate_48 (fun _ _ => (by omega)) ?_
          refine J.iadd hG dX7_rate_49 (fun _ _ => (by omega)) ?_
          refine J.iload hG dX7_rate_50 rfl ?_
          refine J.iadd hG dX7_rate_52 (fun _ _ => (by omega)) ?_
          refine J.iald hG rfl (by omega) (by omega) dX7_rate_53 ?_
          refine J.iadd hG dX7_rate_54 (fun _ _ => (by omega)) ?_
          refine J.istore_n hG dX7_rate_55 rfl (Nat.le_of_ble_eq_true rfl) ?_
          refine J.iinc hG dX7_rate_56 (Nat.le_of_ble_eq_true rfl) rfl (fun _ => (by omega)) ?_
          refine J.goto hG 30 dX7_rate_59 rfl ?_
          exact ih (s + 1) _ (by omega) (by omega) (by omega) (by omega)
      exact lp (μ 0 14).toNat 0 0 (Int.le_refl _) (by omega) (by omega) (by unfold mS; omega)
    · refine J.ldc hG (n := -1000000) dX7_rate_22 ct_X7_214 (by decide) (by decide) ?_
      refine J.iret hG dX7_rate_24 ?_
      rw [hX]; dsimp only
      rw [if_pos (by omega)]
      exact ⟨rfl, rfl⟩

set_option maxRecDepth 100000 in
set_option maxHeartbeats 4000000 in
theorem X7_books (μ0 μ : Mem) (hμ : μ = th μ0) (hB : MB μ) (h : 0 ≤ μ 0 34 ∧ μ 0 34 ≤ 6) (s y e : Int) : CT TM md_X7_books [aR 0, aI s, aI y, aI e] μ0 (fun rv μ1 => if ¬ ((0 ≤ s ∧ s < μ 0 14) ∧ (0 ≤ y ∧ y ≤ 60) ∧ (0 ≤ e ∧ e ≤ 3)) then rv = some (aI (-1)) ∧ μ1 = μ else if μ 0 34 = 6 then rv = some (aI (-3)) ∧ μ1 = μ else rv = some (aI (μ 0 34 + 1)) ∧ μ1 = up (up (up (up μ 14 (μ 0 34) s) 15 (μ 0 34) y) 16 (μ 0 34) e) 0 34 (μ 0 34 + 1)) := by
  refine CT.of (Nat.le_of_ble_eq_true rfl) (by decide) rfl (Nat.le_of_ble_eq_true rfl) (fun X hG hX => ?_)
  have hG : G TM X RX7 cX7_books 4 2 43 (some .int) := hG
  show J TM X 4 0 [some (aR 0), some (aI s), some (aI y), some (aI e)] [] μ0
  refine J.aload_n hG dX7_books_0 rfl rfl ?_
  refine J.iconst hG dX7_books_1 (by decide) ?_
  refine J.putI hG ciX7 rfl 0 0 rfl (Nat.le_of_ble_eq_true rfl) rfl fl_X7_75 rfl rfl dX7_books_2 ?_
  show J TM X 4 5 [some (aR 0), some (aI s), some (aI y), some (aI e)] [] (th μ0)
  rw [← hμ]
  have hB2 := hB
  obtain ⟨h1, h2, h3, h4, h5, h6⟩ := hB2
  refine J.aload_n hG dX7_books_5 rfl rfl ?_
  refine J.iload_n hG dX7_books_6 rfl rfl ?_
  refine J.callV hG (X7_isScale _ _ (by omega)) ok_X7_isScale ml_X7_159 rfl rfl rfl rfl (Nat.le_of_ble_eq_true rfl) ⟨Nat.le_of_ble_eq_true rfl, Nat.le_of_ble_eq_true rfl⟩ dX7_books_7 rfl (fun r1 μ1 hp1 => ?_)
  obtain ⟨rfl, rfl⟩ := hp1
  refine J.ifb_eq hG 32 dX7_books_10 rfl (fun h10 => ?_) (fun h10 => ?_)
  · refine J.iconst hG dX7_books_32 (by decide) ?_
    refine J.iret hG dX7_books_33 ?_
    rw [hX]; dsimp only
    rw [if_pos (by omega)]
    exact ⟨rfl, rfl⟩
  · refine J.iload_n hG dX7_books_13 rfl rfl ?_
    refine J.iconst hG dX7_books_14 (by decide) ?_
    refine J.bipush hG dX7_books_15 (by decide) (by decide) ?_
    refine J.callS hG (X7_in _ _ _ _) ok_X7_in ml_X7_78 rfl (Nat.le_of_ble_eq_true rfl) ⟨Nat.le_of_ble_eq_true rfl, Nat.le_of_ble_eq_true rfl⟩ dX7_books_17 rfl (fun r1 μ1 hp1 => ?_)
    obtain ⟨rfl, rfl⟩ := hp1
    refine J.ifb_eq hG 32 dX7_books_20 rfl (fun h20 => ?_) (fun h20 => ?_)
    · refine J.iconst hG dX7_books_32 (by decide) ?_
      refine J.iret hG dX7_books_33 ?_
      rw [hX]; dsimp only
      rw [if_pos (by omega)]
      exact ⟨rfl, rfl⟩
    · refine J.iload_n hG dX7_books_23 rfl rfl ?_
      refine J.iconst hG dX7_books_24 (by decide) ?_
      refine J.iconst hG dX7_books_25 (by decide) ?_
      refine J.callS hG (X7_in _ _ _ _) ok_X7_in ml_X7_78 rfl (Nat.le_of_ble_eq_true rfl) ⟨Nat.le_of_ble_eq_true rfl, Nat.le_of_ble_eq_true rfl⟩ dX7_books_26 rfl (fun r1 μ1 hp1 => ?_)
      obtain ⟨rfl, rfl⟩ := hp1
      refine J.ifb_ne hG 34 dX7_books_29 rfl (fun h29 => ?_) (fun h29 => ?_)
      · refine J.aload_n hG dX7_books_34 rfl rfl ?_
        refine J.getI hG ciX7 rfl 34 34 rfl (Nat.le_of_ble_eq_true rfl) rfl fl_X7_156 dX7_books_35 ?_
        refine J.bipush hG dX7_books_38 (by decide) (by decide) ?_
        refine J.icmp_ne hG 46 dX7_books_40 rfl (fun h40 => ?_) (fun h40 => ?_)
        · refine J.aload_n hG dX7_books_46 rfl rfl ?_
          refine J.getR hG ciX7 rfl 31 31 rfl (Nat.le_of_ble_eq_true rfl) rfl fl_X7_50 dX7_books_47 ?_
          refine J.aload_n hG dX7_books_50 rfl rfl ?_
          refine J.getI hG ciX7 rfl 34 34 rfl (Nat.le_of_ble_eq_true rfl) rfl fl_X7_156 dX7_books_51 ?_
          refine J.iload_n hG dX7_books_54 rfl rfl ?_
          refine J.iast hG rfl (by first | omega | ((try simp only [up_cell _ _ _ (show (0 : Nat) ≠ 14 by decide), up_cell _ _ _ (show (0 : Nat) ≠ 15 by decide), up_cell _ _ _ (show (0 : Nat) ≠ 16 by decide)]); omega)) (by first | omega | ((try simp only [up_cell _ _ _ (show (0 : Nat) ≠ 14 by decide), up_cell _ _ _ (show (0 : Nat) ≠ 15 by decide), up_cell _ _ _ (show (0 : Nat) ≠ 16 by decide)]); omega)) dX7_books_55 ?_
          refine J.aload_n hG dX7_books_56 rfl rfl ?_
          refine J.getR hG ciX7 rfl 32 32 rfl (Nat.le_of_ble_eq_true rfl) rfl fl_X7_53 dX7_books_57 ?_
          refine J.aload_n hG dX7_books_60 rfl rfl ?_
          refine J.getI hG ciX7 rfl 34 34 rfl (Nat.le_of_ble_eq_true rfl) rfl fl_X7_156 dX7_books_61 ?_
          refine J.iload_n hG dX7_books_64 rfl rfl ?_
          refine J.iast hG rfl (by first | omega | ((try simp only [up_cell _ _ _ (show (0 : Nat) ≠ 14 by decide), up_cell _ _ _ (show (0 : Nat) ≠ 15 by decide), up_cell _ _ _ (show (0 : Nat) ≠ 16 by decide)]); omega)) (by first | omega | ((try simp only [up_cell _ _ _ (show (0 : Nat) ≠ 14 by decide), up_cell _ _ _ (show (0 : Nat) ≠ 15 by decide), up_cell _ _ _ (show (0 : Nat) ≠ 16 by decide)]); omega)) dX7_books_65 ?_
          refine J.aload_n hG dX7_books_66 rfl rfl ?_
          refine J.getR hG ciX7 rfl 33 33 rfl (Nat.le_of_ble_eq_true rfl) rfl fl_X7_56 dX7_books_67 ?_
          refine J.aload_n hG dX7_books_70 rfl rfl ?_
          refine J.getI hG ciX7 rfl 34 34 rfl (Nat.le_of_ble_eq_true rfl) rfl fl_X7_156 dX7_books_71 ?_
          refine J.iload_n hG dX7_books_74 rfl rfl ?_
          refine J.iast hG rfl (by first | omega | ((try simp only [up_cell _ _ _ (show (0 : Nat) ≠ 14 by decide), up_cell _ _ _ (show (0 : Nat) ≠ 15 by decide), up_cell _ _ _ (show (0 : Nat) ≠ 16 by decide)]); omega)) (by first | omega | ((try simp only [up_cell _ _ _ (show (0 : Nat) ≠ 14 by decide), up_cell _ _ _ (show (0 : Nat) ≠ 15 by decide), up_cell _ _ _ (show (0 : Nat) ≠ 16 by decide)]); omega)) dX7_books_75 ?_
          refine J.aload_n hG dX7_books_76 rfl rfl ?_
          refine J.dup hG dX7_books_77 (fun _ => rfl) ?_
          refine J.getI hG ciX7 rfl 34 34 rfl (Nat.le_of_ble_eq_true rfl) rfl fl_X7_156 dX7_books_78 ?_
          refine J.iconst hG dX7_books_81 (by decide) ?_
          refine J.iadd hG dX7_books_82 (fun _ _ => (by first | omega | ((try simp only [up_cell _ _ _ (show (0 : Nat) ≠ 14 by decide), up_cell _ _ _ (show (0 : Nat) ≠ 15 by decide), up_cell _ _ _ (show (0 : Nat) ≠ 16 by decide)]); omega))) ?_
          refine J.putI hG ciX7 rfl 34 34 rfl (Nat.le_of_ble_eq_true rfl) rfl fl_X7_156 rfl rfl dX7_books_83 ?_
          refine J.aload_n hG dX7_books_86 rfl rfl ?_
          refine J.getI hG ciX7 rfl 34 34 rfl (Nat.le_of_ble_eq_true rfl) rfl fl_X7_156 dX7_books_87 ?_
          refine J.iret hG dX7_books_90 ?_
          rw [hX]; dsimp only
          rw [if_neg (by omega), if_neg (by omega), up_self]
          simp only [up_cell _ _ _ (show (0 : Nat) ≠ 14 by decide), up_cell _ _ _ (show (0 : Nat) ≠ 15 by decide), up_cell _ _ _ (show (0 : Nat) ≠ 16 by decide)]
          first | exact ⟨rfl, rfl⟩ | exact ⟨trivial, rfl⟩ | exact ⟨rfl, trivial⟩ | exact ⟨trivial, trivial⟩
        · refine J.bipush hG dX7_books_43 (by decide) (by decide) ?_
          refine J.iret hG dX7_books_45 ?_
          rw [hX]; dsimp only
          rw [if_neg (by omega), if_pos (by omega)]
          exact ⟨rfl, rfl⟩
      · refine J.iconst hG dX7_books_32 (by decide) ?_
        refine J.iret hG dX7_books_33 ?_
        rw [hX]; dsimp only
        rw [if_pos (by omega)]
        exact ⟨rfl, rfl⟩


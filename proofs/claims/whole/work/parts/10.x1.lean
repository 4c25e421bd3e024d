set_option maxRecDepth 100000 in
set_option maxHeartbeats 4000000 in
theorem X6_within (μ : Mem) (v a b : Int) : CT TX md_X6_within [aI v, aI a, aI b] μ (fun rv μ1 => rv = some (aI (if a ≤ v ∧ v ≤ b then 1 else 0)) ∧ μ = μ1) := by
  refine CT.of (Nat.le_of_ble_eq_true rfl) (by decide) rfl (Nat.le_of_ble_eq_true rfl) (fun X hG hX => ?_)
  have hG : G TX X RX6 cX6_within 3 0 0 (some .boolean) := hG
  show J TX X 3 0 [some (aI v), some (aI a), some (aI b)] [] μ
  refine J.iload_n hG dX6_within_0 rfl rfl ?_
  refine J.iload_n hG dX6_within_1 rfl rfl ?_
  refine J.icmp_lt hG 14 dX6_within_2 rfl (fun h2 => ?_) (fun h2 => ?_)
  · refine J.iconst hG dX6_within_14 (by decide) ?_
    refine J.zret hG (by first | exact Or.inl rfl | exact Or.inr rfl | assumption | (split <;> first | exact Or.inl rfl | exact Or.inr rfl)) dX6_within_15 ?_
    rw [hX]; dsimp only
    exact ⟨by congr 2; (split <;> omega), rfl⟩
  · refine J.iload_n hG dX6_within_5 rfl rfl ?_
    refine J.iload_n hG dX6_within_6 rfl rfl ?_
    refine J.icmp_gt hG 14 dX6_within_7 rfl (fun h7 => ?_) (fun h7 => ?_)
    · refine J.iconst hG dX6_within_14 (by decide) ?_
      refine J.zret hG (by first | exact Or.inl rfl | exact Or.inr rfl | assumption | (split <;> first | exact Or.inl rfl | exact Or.inr rfl)) dX6_within_15 ?_
      rw [hX]; dsimp only
      exact ⟨by congr 2; (split <;> omega), rfl⟩
    · refine J.iconst hG dX6_within_10 (by decide) ?_
      refine J.goto hG 15 dX6_within_11 rfl ?_
      refine J.zret hG (by first | exact Or.inl rfl | exact Or.inr rfl | assumption | (split <;> first | exact Or.inl rfl | exact Or.inr rfl)) dX6_within_15 ?_
      rw [hX]; dsimp only
      exact ⟨by congr 2; (split <;> omega), rfl⟩

set_option maxRecDepth 100000 in
set_option maxHeartbeats 4000000 in
theorem X1_hasScale (μ : Mem) (s : Int) : CT TX md_X1_hasScale [aR 13, aI s] μ (fun rv μ1 => rv = some (aI (if 0 ≤ s ∧ s < μ 13 0 then 1 else 0)) ∧ μ = μ1) := by
  refine CT.of (Nat.le_of_ble_eq_true rfl) (by decide) rfl (Nat.le_of_ble_eq_true rfl) (fun X hG hX => ?_)
  have hG : G TX X RX1 cX1_hasScale 2 0 0 (some .boolean) := hG
  show J TX X 2 0 [some (aR 13), some (aI s)] [] μ
  refine J.iload_n hG dX1_hasScale_0 rfl rfl ?_
  refine J.if_lt hG 16 dX1_hasScale_1 rfl (fun h1 => ?_) (fun h1 => ?_)
  · refine J.iconst hG dX1_hasScale_16 (by decide) ?_
    refine J.zret hG (by first | exact Or.inl rfl | exact Or.inr rfl | assumption | (split <;> first | exact Or.inl rfl | exact Or.inr rfl)) dX1_hasScale_17 ?_
    rw [hX]; dsimp only
    exact ⟨by congr 2; (split <;> omega), rfl⟩
  · refine J.iload_n hG dX1_hasScale_4 rfl rfl ?_
    refine J.aload_n hG dX1_hasScale_5 rfl rfl ?_
    refine J.getI hG ciX1 rfl 0 0 rfl (Nat.le_of_ble_eq_true rfl) rfl fl_X1_9 dX1_hasScale_6 ?_
    refine J.icmp_ge hG 16 dX1_hasScale_9 rfl (fun h9 => ?_) (fun h9 => ?_)
    · refine J.iconst hG dX1_hasScale_16 (by decide) ?_
      refine J.zret hG (by first | exact Or.inl rfl | exact Or.inr rfl | assumption | (split <;> first | exact Or.inl rfl | exact Or.inr rfl)) dX1_hasScale_17 ?_
      rw [hX]; dsimp only
      exact ⟨by congr 2; (split <;> omega), rfl⟩
    · refine J.iconst hG dX1_hasScale_12 (by decide) ?_
      refine J.goto hG 17 dX1_hasScale_13 rfl ?_
      refine J.zret hG (by first | exact Or.inl rfl | exact Or.inr rfl | assumption | (split <;> first | exact Or.inl rfl | exact Or.inr rfl)) dX1_hasScale_17 ?_
      rw [hX]; dsimp only
      exact ⟨by congr 2; (split <;> omega), rfl⟩

set_option maxRecDepth 100000 in
set_option maxHeartbeats 4000000 in
theorem X1_hasLife (μ : Mem) (s : Int) : CT TX md_X1_hasLife [aR 13, aI s] μ (fun rv μ1 => rv = some (aI (if 0 ≤ s ∧ s < μ 13 1 then 1 else 0)) ∧ μ = μ1) := by
  refine CT.of (Nat.le_of_ble_eq_true rfl) (by decide) rfl (Nat.le_of_ble_eq_true rfl) (fun X hG hX => ?_)
  have hG : G TX X RX1 cX1_hasLife 2 0 0 (some .boolean) := hG
  show J TX X 2 0 [some (aR 13), some (aI s)] [] μ
  refine J.iload_n hG dX1_hasLife_0 rfl rfl ?_
  refine J.if_lt hG 16 dX1_hasLife_1 rfl (fun h1 => ?_) (fun h1 => ?_)
  · refine J.iconst hG dX1_hasLife_16 (by decide) ?_
    refine J.zret hG (by first | exact Or.inl rfl | exact Or.inr rfl | assumption | (split <;> first | exact Or.inl rfl | exact Or.inr rfl)) dX1_hasLife_17 ?_
    rw [hX]; dsimp only
    exact ⟨by congr 2; (split <;> omega), rfl⟩
  · refine J.iload_n hG dX1_hasLife_4 rfl rfl ?_
    refine J.aload_n hG dX1_hasLife_5 rfl rfl ?_
    refine J.getI hG ciX1 rfl 1 1 rfl (Nat.le_of_ble_eq_true rfl) rfl fl_X1_15 dX1_hasLife_6 ?_
    refine J.icmp_ge hG 16 dX1_hasLife_9 rfl (fun h9 => ?_) (fun h9 => ?_)
    · refine J.iconst hG dX1_hasLife_16 (by decide) ?_
      refine J.zret hG (by first | exact Or.inl rfl | exact Or.inr rfl | assumption | (split <;> first | exact Or.inl rfl | exact Or.inr rfl)) dX1_hasLife_17 ?_
      rw [hX]; dsimp only
      exact ⟨by congr 2; (split <;> omega), rfl⟩
    · refine J.iconst hG dX1_hasLife_12 (by decide) ?_
      refine J.goto hG 17 dX1_hasLife_13 rfl ?_
      refine J.zret hG (by first | exact Or.inl rfl | exact Or.inr rfl | assumption | (split <;> first | exact Or.inl rfl | exact Or.inr rfl)) dX1_hasLife_17 ?_
      rw [hX]; dsimp only
      exact ⟨by congr 2; (split <;> omega), rfl⟩

set_option maxRecDepth 100000 in
set_option maxHeartbeats 4000000 in
theorem X1_hasPlace (μ : Mem) (s : Int) : CT TX md_X1_hasPlace [aR 13, aI s] μ (fun rv μ1 => rv = some (aI (if 0 ≤ s ∧ s < μ 13 2 then 1 else 0)) ∧ μ = μ1) := by
  refine CT.of (Nat.le_of_ble_eq_true rfl) (by decide) rfl (Nat.le_of_ble_eq_true rfl) (fun X hG hX => ?_)
  have hG : G TX X RX1 cX1_hasPlace 2 0 0 (some .boolean) := hG
  show J TX X 2 0 [some (aR 13), some (aI s)] [] μ
  refine J.iload_n hG dX1_hasPlace_0 rfl rfl ?_
  refine J.if_lt hG 16 dX1_hasPlace_1 rfl (fun h1 => ?_) (fun h1 => ?_)
  · refine J.iconst hG dX1_hasPlace_16 (by decide) ?_
    refine J.zret hG (by first | exact Or.inl rfl | exact Or.inr rfl | assumption | (split <;> first | exact Or.inl rfl | exact Or.inr rfl)) dX1_hasPlace_17 ?_
    rw [hX]; dsimp only
    exact ⟨by congr 2; (split <;> omega), rfl⟩
  · refine J.iload_n hG dX1_hasPlace_4 rfl rfl ?_
    refine J.aload_n hG dX1_hasPlace_5 rfl rfl ?_
    refine J.getI hG ciX1 rfl 2 2 rfl (Nat.le_of_ble_eq_true rfl) rfl fl_X1_18 dX1_hasPlace_6 ?_
    refine J.icmp_ge hG 16 dX1_hasPlace_9 rfl (fun h9 => ?_) (fun h9 => ?_)
    · refine J.iconst hG dX1_hasPlace_16 (by decide) ?_
      refine J.zret hG (by first | exact Or.inl rfl | exact Or.inr rfl | assumption | (split <;> first | exact Or.inl rfl | exact Or.inr rfl)) dX1_hasPlace_17 ?_
      rw [hX]; dsimp only
      exact ⟨by congr 2; (split <;> omega), rfl⟩
    · refine J.iconst hG dX1_hasPlace_12 (by decide) ?_
      refine J.goto hG 17 dX1_hasPlace_13 rfl ?_
      refine J.zret hG (by first | exact Or.inl rfl | exact Or.inr rfl | assumption | (split <;> first | exact Or.inl rfl | exact Or.inr rfl)) dX1_hasPlace_17 ?_
      rw [hX]; dsimp only
      exact ⟨by congr 2; (split <;> omega), rfl⟩

set_option maxRecDepth 100000 in
set_option maxHeartbeats 4000000 in
theorem X6_moved (μ : Mem) (v b r : Int) (h : okI (v + b)) (hr : 0 ≤ r) : CT TX md_X6_moved [aI v, aI b, aI r] μ (fun rv μ1 => rv = some (aI (cl r (v + b))) ∧ μ = μ1) := by
  refine CT.of (Nat.le_of_ble_eq_true rfl) (by decide) rfl (Nat.le_of_ble_eq_true rfl) (fun X hG hX => ?_)
  have hG : G TX X RX6 cX6_moved 3 1 30 (some .int) := hG
  show J TX X 3 0 [some (aI v), some (aI b), some (aI r)] [] μ
  refine J.iconst hG dX6_moved_0 (by decide) ?_
  refine J.iload_n hG dX6_moved_1 rfl rfl ?_
  refine J.iload_n hG dX6_moved_2 rfl rfl ?_
  refine J.iload_n hG dX6_moved_3 rfl rfl ?_
  refine J.iadd hG dX6_moved_4 (fun _ _ => (by omega)) ?_
  refine J.mmin hG ml_X6_252 (Nat.le_of_ble_eq_true rfl) (Nat.le_of_ble_eq_true rfl) dX6_moved_5 ?_
  refine J.mmax hG ml_X6_257 (Nat.le_of_ble_eq_true rfl) (Nat.le_of_ble_eq_true rfl) dX6_moved_8 ?_
  refine J.iret hG dX6_moved_11 ?_
  rw [hX]; dsimp only
  exact ⟨by congr 2; unfold cl; (repeat' split) <;> omega, rfl⟩

set_option maxRecDepth 100000 in
set_option maxHeartbeats 4000000 in
theorem X6_cell (μ : Mem) (l s : Int) (h : 0 ≤ l ∧ l < 100) (hs : 0 ≤ s ∧ s < 100) : CT TX md_X6_cell [aI l, aI s] μ (fun rv μ1 => rv = some (aI (l * 4 + s)) ∧ μ = μ1) := by
  refine CT.of (Nat.le_of_ble_eq_true rfl) (by decide) rfl (Nat.le_of_ble_eq_true rfl) (fun X hG hX => ?_)
  have hG : G TX X RX6 cX6_cell 2 0 0 (some .int) := hG
  show J TX X 2 0 [some (aI l), some (aI s)] [] μ
  refine J.iload_n hG dX6_cell_0 rfl rfl ?_
  refine J.iconst hG dX6_cell_1 (by decide) ?_
  refine J.imul hG dX6_cell_2 (fun _ _ => (by omega)) ?_
  refine J.iload_n hG dX6_cell_3 rfl rfl ?_
  refine J.iadd hG dX6_cell_4 (fun _ _ => (by omega)) ?_
  refine J.iret hG dX6_cell_5 ?_
  rw [hX]; dsimp only
  exact ⟨rfl, rfl⟩

set_option maxRecDepth 100000 in
set_option maxHeartbeats 4000000 in
theorem X6_endBy (μ : Mem) (w t r v : Int) (h : -1000000 ≤ v ∧ v ≤ 1000000) : CT TX md_X6_endBy [aI w, aI t, aI r, aI v] μ (fun rv μ1 => rv = some (aI (EB w t r v)) ∧ μ = μ1) := by
  refine CT.of (Nat.le_of_ble_eq_true rfl) (by decide) rfl (Nat.le_of_ble_eq_true rfl) (fun X hG hX => ?_)
  have hG : G TX X RX6 cX6_endBy 5 0 0 (some .int) := hG
  show J TX X 5 0 [some (aI w), some (aI t), some (aI r), some (aI v), none] [] μ
  refine J.iload_n hG dX6_endBy_0 rfl rfl ?_
  refine J.if_ne hG 15 dX6_endBy_1 rfl (fun h1 => ?_) (fun h1 => ?_)
  · refine J.iload_n hG dX6_endBy_15 rfl rfl ?_
    refine J.iconst hG dX6_endBy_16 (by decide) ?_
    refine J.icmp_ne hG 47 dX6_endBy_17 rfl (fun h17 => ?_) (fun h17 => ?_)
    · refine J.iload_n hG dX6_endBy_47 rfl rfl ?_
      refine J.if_ne hG 53 dX6_endBy_48 rfl (fun h48 => ?_) (fun h48 => ?_)
      · refine J.iload_n hG dX6_endBy_53 rfl rfl ?_
        refine J.iload_n hG dX6_endBy_54 rfl rfl ?_
        refine J.icmp_ne hG 60 dX6_endBy_55 rfl (fun h55 => ?_) (fun h55 => ?_)
        · refine J.iload_n hG dX6_endBy_60 rfl rfl ?_
          refine J.iconst hG dX6_endBy_61 (by decide) ?_
          refine J.icmp_ne hG 69 dX6_endBy_62 rfl (fun h62 => ?_) (fun h62 => ?_)
          · refine J.iconst hG dX6_endBy_69 (by decide) ?_
            refine J.iret hG dX6_endBy_70 ?_
            rw [hX]; dsimp only
            exact ⟨by congr 2; unfold EB; (repeat' split) <;> omega, rfl⟩
          · refine J.iconst hG dX6_endBy_65 (by decide) ?_
            refine J.goto hG 70 dX6_endBy_66 rfl ?_
            refine J.iret hG dX6_endBy_70 ?_
            rw [hX]; dsimp only
            exact ⟨by congr 2; unfold EB; (repeat' split) <;> omega, rfl⟩
        · refine J.iconst hG dX6_endBy_58 (by decide) ?_
          refine J.iret hG dX6_endBy_59 ?_
          rw [hX]; dsimp only
          exact ⟨by congr 2; unfold EB; (repeat' split) <;> omega, rfl⟩
      · refine J.iconst hG dX6_endBy_51 (by decide) ?_
        refine J.iret hG dX6_endBy_52 ?_
        rw [hX]; dsimp only
        exact ⟨by congr 2; unfold EB; (repeat' split) <;> omega, rfl⟩
    · refine J.iconst hG dX6_endBy_20 (by decide) ?_
      refine J.iload_n hG dX6_endBy_21 rfl rfl ?_
      refine J.imul hG dX6_endBy_22 (fun _ _ => (by omega)) ?_
      refine J.istore hG dX6_endBy_23 (Nat.le_of_ble_eq_true rfl) ?_
      refine J.iload hG dX6_endBy_25 rfl ?_
      refine J.iload_n hG dX6_endBy_27 rfl rfl ?_
      refine J.icmp_ne hG 35 dX6_endBy_28 rfl (fun h28 => ?_) (fun h28 => ?_)
      · refine J.iload hG dX6_endBy_35 rfl ?_
        refine J.iload_n hG dX6_endBy_37 rfl rfl ?_
        refine J.icmp_ge hG 45 dX6_endBy_38 rfl (fun h38 => ?_) (fun h38 => ?_)
        · refine J.iconst hG dX6_endBy_45 (by decide) ?_
          refine J.iret hG dX6_endBy_46 ?_
          rw [hX]; dsimp only
          exact ⟨by congr 2; unfold EB; (repeat' split) <;> omega, rfl⟩
        · refine J.iconst hG dX6_endBy_41 (by decide) ?_
          refine J.goto hG 46 dX6_endBy_42 rfl ?_
          refine J.iret hG dX6_endBy_46 ?_
          rw [hX]; dsimp only
          exact ⟨by congr 2; unfold EB; (repeat' split) <;> omega, rfl⟩
      · refine J.iconst hG dX6_endBy_31 (by decide) ?_
        refine J.goto hG 46 dX6_endBy_32 rfl ?_
        refine J.iret hG dX6_endBy_46 ?_
        rw [hX]; dsimp only
        exact ⟨by congr 2; unfold EB; (repeat' split) <;> omega, rfl⟩
  · refine J.iload_n hG dX6_endBy_4 rfl rfl ?_
    refine J.iload_n hG dX6_endBy_5 rfl rfl ?_
    refine J.icmp_ge hG 13 dX6_endBy_6 rfl (fun h6 => ?_) (fun h6 => ?_)
    · refine J.iconst hG dX6_endBy_13 (by decide) ?_
      refine J.iret hG dX6_endBy_14 ?_
      rw [hX]; dsimp only
      exact ⟨by congr 2; unfold EB; (repeat' split) <;> omega, rfl⟩
    · refine J.iconst hG dX6_endBy_9 (by decide) ?_
      refine J.goto hG 14 dX6_endBy_10 rfl ?_
      refine J.iret hG dX6_endBy_14 ?_
      rw [hX]; dsimp only
      exact ⟨by congr 2; unfold EB; (repeat' split) <;> omega, rfl⟩

set_option maxRecDepth 100000 in
set_option maxHeartbeats 4000000 in
theorem X6_endOf (μ : Mem) (s v : Int) (hs : 0 ≤ s ∧ s < 4) (h : -1000000 ≤ v ∧ v ≤ 1000000) : CT TX md_X6_endOf [aR 0, aI s, aI v] μ (fun rv μ1 => rv = some (aI (EB (μ 19 s) (μ 20 s) (μ 14 s) v)) ∧ μ = μ1) := by
  refine CT.of (Nat.le_of_ble_eq_true rfl) (by decide) rfl (Nat.le_of_ble_eq_true rfl) (fun X hG hX => ?_)
  have hG : G TX X RX6 cX6_endOf 3 1 24 (some .int) := hG
  show J TX X 3 0 [some (aR 0), some (aI s), some (aI v)] [] μ
  refine J.aload_n hG dX6_endOf_0 rfl rfl ?_
  refine J.getR hG ciX6 rfl 2 2 rfl (Nat.le_of_ble_eq_true rfl) rfl fl_X6_26 dX6_endOf_1 ?_
  refine J.getR hG ciX2 rfl 3 3 rfl (Nat.le_of_ble_eq_true rfl) rfl fl_X6_109 dX6_endOf_4 ?_
  refine J.iload_n hG dX6_endOf_7 rfl rfl ?_
  refine J.iald hG rfl (by omega) (by omega) dX6_endOf_8 ?_
  refine J.aload_n hG dX6_endOf_9 rfl rfl ?_
  refine J.getR hG ciX6 rfl 2 2 rfl (Nat.le_of_ble_eq_true rfl) rfl fl_X6_26 dX6_endOf_10 ?_
  refine J.getR hG ciX2 rfl 4 4 rfl (Nat.le_of_ble_eq_true rfl) rfl fl_X6_115 dX6_endOf_13 ?_
  refine J.iload_n hG dX6_endOf_16 rfl rfl ?_
  refine J.iald hG rfl (by omega) (by omega) dX6_endOf_17 ?_
  refine J.aload_n hG dX6_endOf_18 rfl rfl ?_
  refine J.getR hG ciX6 rfl 1 1 rfl (Nat.le_of_ble_eq_true rfl) rfl fl_X6_19 dX6_endOf_19 ?_
  refine J.getR hG ciX1 rfl 4 4 rfl (Nat.le_of_ble_eq_true rfl) rfl fl_X6_112 dX6_endOf_22 ?_
  refine J.iload_n hG dX6_endOf_25 rfl rfl ?_
  refine J.iald hG rfl (by omega) (by omega) dX6_endOf_26 ?_
  refine J.iload_n hG dX6_endOf_27 rfl rfl ?_
  refine J.callS hG (X6_endBy _ _ _ _ _ h) ok_X6_endBy ml_X6_260 rfl (Nat.le_of_ble_eq_true rfl) ⟨Nat.le_of_ble_eq_true rfl, Nat.le_of_ble_eq_true rfl⟩ dX6_endOf_28 rfl (fun r1 μ1 hp1 => ?_)
  obtain ⟨rfl, rfl⟩ := hp1
  refine J.iret hG dX6_endOf_31 ?_
  rw [hX]; dsimp only
  exact ⟨rfl, rfl⟩

set_option maxRecDepth 100000 in
set_option maxHeartbeats 4000000 in
theorem X6_canBeLaw (μ : Mem) (s w t : Int) (hB : XB μ) : CT TX md_X6_canBeLaw [aR 0, aI s, aI w, aI t] μ (fun rv μ1 => rv = some (aI (if (0 ≤ s ∧ s < μ 13 0) ∧ (0 ≤ w ∧ w ≤ 3) ∧ (1 ≤ t ∧ t ≤ μ 14 s) then 1 else 0)) ∧ μ = μ1) := by
  refine CT.of (Nat.le_of_ble_eq_true rfl) (by decide) rfl (Nat.le_of_ble_eq_true rfl) (fun X hG hX => ?_)
  have hG : G TX X RX6 cX6_canBeLaw 4 1 22 (some .boolean) := hG
  show J TX X 4 0 [some (aR 0), some (aI s), some (aI w), some (aI t)] [] μ
  obtain ⟨h1, h2, h3, h4, h5, h6⟩ := hB
  refine J.aload_n hG dX6_canBeLaw_0 rfl rfl ?_
  refine J.getR hG ciX6 rfl 1 1 rfl (Nat.le_of_ble_eq_true rfl) rfl fl_X6_19 dX6_canBeLaw_1 ?_
  refine J.iload_n hG dX6_canBeLaw_4 rfl rfl ?_
  refine J.callV hG (X1_hasScale _ _) ok_X1_hasScale ml_X6_106 rfl rfl rfl rfl (Nat.le_of_ble_eq_true rfl) ⟨Nat.le_of_ble_eq_true rfl, Nat.le_of_ble_eq_true rfl⟩ dX6_canBeLaw_5 rfl (fun r1 μ1 hp1 => ?_)
  obtain ⟨rfl, rfl⟩ := hp1
  refine J.ifb_eq hG 41 dX6_canBeLaw_8 rfl (fun h8 => ?_) (fun h8 => ?_)
  · refine J.iconst hG dX6_canBeLaw_41 (by decide) ?_
    refine J.zret hG (by first | exact Or.inl rfl | exact Or.inr rfl | assumption | (split <;> first | exact Or.inl rfl | exact Or.inr rfl)) dX6_canBeLaw_42 ?_
    rw [hX]; dsimp only
    exact ⟨by congr 2; (split <;> first | rfl | (exfalso; simp_all; done) | (exfalso; omega)), rfl⟩
  · refine J.iload_n hG dX6_canBeLaw_11 rfl rfl ?_
    refine J.iconst hG dX6_canBeLaw_12 (by decide) ?_
    refine J.iconst hG dX6_canBeLaw_13 (by decide) ?_
    refine J.callS hG (X6_within _ _ _ _) ok_X6_within ml_X6_70 rfl (Nat.le_of_ble_eq_true rfl) ⟨Nat.le_of_ble_eq_true rfl, Nat.le_of_ble_eq_true rfl⟩ dX6_canBeLaw_14 rfl (fun r1 μ1 hp1 => ?_)
    obtain ⟨rfl, rfl⟩ := hp1
    refine J.ifb_eq hG 41 dX6_canBeLaw_17 rfl (fun h17 => ?_) (fun h17 => ?_)
    · refine J.iconst hG dX6_canBeLaw_41 (by decide) ?_
      refine J.zret hG (by first | exact Or.inl rfl | exact Or.inr rfl | assumption | (split <;> first | exact Or.inl rfl | exact Or.inr rfl)) dX6_canBeLaw_42 ?_
      rw [hX]; dsimp only
      exact ⟨by congr 2; (split <;> first | rfl | (exfalso; simp_all; done) | (exfalso; omega)), rfl⟩
    · refine J.iload_n hG dX6_canBeLaw_20 rfl rfl ?_
      refine J.iconst hG dX6_canBeLaw_21 (by decide) ?_
      refine J.aload_n hG dX6_canBeLaw_22 rfl rfl ?_
      refine J.getR hG ciX6 rfl 1 1 rfl (Nat.le_of_ble_eq_true rfl) rfl fl_X6_19 dX6_canBeLaw_23 ?_
      refine J.getR hG ciX1 rfl 4 4 rfl (Nat.le_of_ble_eq_true rfl) rfl fl_X6_112 dX6_canBeLaw_26 ?_
      refine J.iload_n hG dX6_canBeLaw_29 rfl rfl ?_
      refine J.iald hG rfl (by omega) (by omega) dX6_canBeLaw_30 ?_
      refine J.callS hG (X6_within _ _ _ _) ok_X6_within ml_X6_70 rfl (Nat.le_of_ble_eq_true rfl) ⟨Nat.le_of_ble_eq_true rfl, Nat.le_of_ble_eq_true rfl⟩ dX6_canBeLaw_31 rfl (fun r1 μ1 hp1 => ?_)
      obtain ⟨rfl, rfl⟩ := hp1
      refine J.ifb_eq hG 41 dX6_canBeLaw_34 rfl (fun h34 => ?_) (fun h34 => ?_)
      · refine J.iconst hG dX6_canBeLaw_41 (by decide) ?_
        refine J.zret hG (by first | exact Or.inl rfl | exact Or.inr rfl | assumption | (split <;> first | exact Or.inl rfl | exact Or.inr rfl)) dX6_canBeLaw_42 ?_
        rw [hX]; dsimp only
        exact ⟨by congr 2; (split <;> first | rfl | (exfalso; simp_all; done) | (exfalso; omega)), rfl⟩
      · refine J.iconst hG dX6_canBeLaw_37 (by decide) ?_
        refine J.goto hG 42 dX6_canBeLaw_38 rfl ?_
        refine J.zret hG (by first | exact Or.inl rfl | exact Or.inr rfl | assumption | (split <;> first | exact Or.inl rfl | exact Or.inr rfl)) dX6_canBeLaw_42 ?_
        rw [hX]; dsimp only
        exact ⟨by congr 2; (split <;> first | rfl | (exfalso; simp_all; done) | (exfalso; omega)), rfl⟩

set_option maxRecDepth 100000 in
set_option maxHeartbeats 4000000 in
theorem X6_valueBehind (μ : Mem) (hB : XB μ) (n l s : Int) (hn : 0 ≤ n ∧ n ≤ 1000) (hl : 0 ≤ l ∧ l < μ 13 1) (hs : 0 ≤ s ∧ s < μ 13 0) : CT TX md_X6_valueBehind [aR 0, aI n, aI l, aI s] μ (fun rv μ1 => rv = some (aI (xV μ n l s)) ∧ μ = μ1) := by
  refine CT.of (Nat.le_of_ble_eq_true rfl) (by decide) rfl (Nat.le_of_ble_eq_true rfl) (fun X hG hX => ?_)
  have hG : G TX X RX6 cX6_valueBehind 5 2 52 (some .int) := hG
  show J TX X 5 0 [some (aR 0), some (aI n), some (aI l), some (aI s), none] [] μ
  obtain ⟨h1, h2, h3, h4, h5, h6⟩ := hB
  have q5 := h5 s hs.1 hs.2
  have q6 := h6 l s hl.1 hl.2 hs.1 hs.2
  have b1 : n * μ 15 (l * 4 + s) ≤ n * 3 := Int.mul_le_mul_of_nonneg_left q6.2.1 hn.1
  have b2 : n * -3 ≤ n * μ 15 (l * 4 + s) := Int.mul_le_mul_of_nonneg_left q6.1 hn.1
  refine J.iload_n hG dX6_valueBehind_0 rfl rfl ?_
  refine J.iload_n hG dX6_valueBehind_1 rfl rfl ?_
  refine J.callS hG (X6_cell _ _ _ (by omega) (by omega)) ok_X6_cell ml_X6_124 rfl (Nat.le_of_ble_eq_true rfl) ⟨Nat.le_of_ble_eq_true rfl, Nat.le_of_ble_eq_true rfl⟩ dX6_valueBehind_2 rfl (fun r1 μ1 hp1 => ?_)
  obtain ⟨rfl, rfl⟩ := hp1
  refine J.istore hG dX6_valueBehind_5 (Nat.le_of_ble_eq_true rfl) ?_
  refine J.aload_n hG dX6_valueBehind_7 rfl rfl ?_
  refine J.getR hG ciX6 rfl 2 2 rfl (Nat.le_of_ble_eq_true rfl) rfl fl_X6_26 dX6_valueBehind_8 ?_
  refine J.getR hG ciX2 rfl 2 2 rfl (Nat.le_of_ble_eq_true rfl) rfl fl_X6_121 dX6_valueBehind_11 ?_
  refine J.iload hG dX6_valueBehind_14 rfl ?_
  refine J.iald hG rfl (by omega) (by omega) dX6_valueBehind_16 ?_
  refine J.iload_n hG dX6_valueBehind_17 rfl rfl ?_
  refine J.aload_n hG dX6_valueBehind_18 rfl rfl ?_
  refine J.getR hG ciX6 rfl 1 1 rfl (Nat.le_of_ble_eq_true rfl) rfl fl_X6_19 dX6_valueBehind_19 ?_
  refine J.getR hG ciX1 rfl 5 5 rfl (Nat.le_of_ble_eq_true rfl) rfl fl_X6_128 dX6_valueBehind_22 ?_
  refine J.iload hG dX6_valueBehind_25 rfl ?_
  refine J.iald hG rfl (by omega) (by omega) dX6_valueBehind_27 ?_
  refine J.imul hG dX6_valueBehind_28 (fun _ _ => (by omega)) ?_
  refine J.aload_n hG dX6_valueBehind_29 rfl rfl ?_
  refine J.getR hG ciX6 rfl 1 1 rfl (Nat.le_of_ble_eq_true rfl) rfl fl_X6_19 dX6_valueBehind_30 ?_
  refine J.getR hG ciX1 rfl 4 4 rfl (Nat.le_of_ble_eq_true rfl) rfl fl_X6_112 dX6_valueBehind_33 ?_
  refine J.iload_n hG dX6_valueBehind_36 rfl rfl ?_
  refine J.iald hG rfl (by omega) (by omega) dX6_valueBehind_37 ?_
  refine J.callS hG (X6_moved _ _ _ _ (by omega) (by omega)) ok_X6_moved ml_X6_153 rfl (Nat.le_of_ble_eq_true rfl) ⟨Nat.le_of_ble_eq_true rfl, Nat.le_of_ble_eq_true rfl⟩ dX6_valueBehind_38 rfl (fun r1 μ1 hp1 => ?_)
  obtain ⟨rfl, rfl⟩ := hp1
  refine J.iret hG dX6_valueBehind_41 ?_
  rw [hX]; dsimp only
  exact ⟨rfl, rfl⟩

set_option maxRecDepth 100000 in
set_option maxHeartbeats 4000000 in
theorem X6_endBehind (μ : Mem) (hB : XB μ) (n l s : Int) (hn : 0 ≤ n ∧ n ≤ 1000) (hl : 0 ≤ l ∧ l < μ 13 1) (hs : 0 ≤ s ∧ s < μ 13 0) : CT TX md_X6_endBehind [aR 0, aI n, aI l, aI s] μ (fun rv μ1 => rv = some (aI (xE μ n l s)) ∧ μ = μ1) := by
  refine CT.of (Nat.le_of_ble_eq_true rfl) (by decide) rfl (Nat.le_of_ble_eq_true rfl) (fun X hG hX => ?_)
  have hG : G TX X RX6 cX6_endBehind 4 3 76 (some .int) := hG
  show J TX X 4 0 [some (aR 0), some (aI n), some (aI l), some (aI s)] [] μ
  have hB2 := hB
  obtain ⟨h1, h2, h3, h4, h5, h6⟩ := hB2
  have q5 := h5 s hs.1 hs.2
  have q6 := h6 l s hl.1 hl.2 hs.1 hs.2
  have b1 : n * μ 15 (l * 4 + s) ≤ n * 3 := Int.mul_le_mul_of_nonneg_left q6.2.1 hn.1
  have b2 : n * -3 ≤ n * μ 15 (l * 4 + s) := Int.mul_le_mul_of_nonneg_left q6.1 hn.1
  have b3 : 0 ≤ xV μ n l s ∧ xV μ n l s ≤ μ 14 s := cl_bound (by omega)
  refine J.aload_n hG dX6_endBehind_0 rfl rfl ?_
  refine J.iload_n hG dX6_endBehind_1 rfl rfl ?_
  refine J.aload_n hG dX6_endBehind_2 rfl rfl ?_
  refine J.iload_n hG dX6_endBehind_3 rfl rfl ?_
  refine J.iload_n hG dX6_endBehind_4 rfl rfl ?_
  refine J.iload_n hG dX6_endBehind_5 rfl rfl ?_
  refine J.callV hG (X6_valueBehind _ hB _ _ _ hn hl hs) ok_X6_valueBehind ml_X6_263 rfl rfl rfl rfl (Nat.le_of_ble_eq_true rfl) ⟨Nat.le_of_ble_eq_true rfl, Nat.le_of_ble_eq_true rfl⟩ dX6_endBehind_6 rfl (fun r1 μ1 hp1 => ?_)
  obtain ⟨rfl, rfl⟩ := hp1
  refine J.callV hG (X6_endOf _ _ _ (by omega) (by omega)) ok_X6_endOf ml_X6_135 rfl rfl rfl rfl (Nat.le_of_ble_eq_true rfl) ⟨Nat.le_of_ble_eq_true rfl, Nat.le_of_ble_eq_true rfl⟩ dX6_endBehind_9 rfl (fun r1 μ1 hp1 => ?_)
  obtain ⟨rfl, rfl⟩ := hp1
  refine J.iret hG dX6_endBehind_12 ?_
  rw [hX]; dsimp only
  exact ⟨rfl, rfl⟩

set_option maxRecDepth 100000 in
set_option maxHeartbeats 4000000 in
theorem X6_unlawfulScale (μ : Mem) (hB : XB μ) (l n : Int) (hn : 0 ≤ n ∧ n ≤ 1000) (hl : 0 ≤ l ∧ l < μ 13 1) : CT TX md_X6_unlawfulScale [aR 0, aI l, aI n] μ (fun rv μ1 => rv = some (aI (xU μ n l)) ∧ μ = μ1) := by
  refine CT.of (Nat.le_of_ble_eq_true rfl) (by decide) rfl (Nat.le_of_ble_eq_true rfl) (fun X hG hX => ?_)
  have hG : G TX X RX6 cX6_unlawfulScale 4 4 99 (some .int) := hG
  show J TX X 4 0 [some (aR 0), some (aI l), some (aI n), none] [] μ
  have hB2 := hB
  obtain ⟨h1, h2, h3, h4, h5, h6⟩ := hB2
  have loop : ∀ (k : Nat) (s : Int), 0 ≤ s → s + k = μ 13 0 → fs3 (fun s => xE μ n l s) k s = xU μ n l → J TX X 4 2 [some (aR 0), some (aI l), some (aI n), some (aI s)] [] μ := by
    intro k
    induction k with
    | zero =>
      intro s i0 i1 i2
      refine J.iload_n hG dX6_unlawfulScale_2 rfl rfl ?_
      refine J.aload_n hG dX6_unlawfulScale_3 rfl rfl ?_
      refine J.getR hG ciX6 rfl 1 1 rfl (Nat.le_of_ble_eq_true rfl) rfl fl_X6_19 dX6_unlawfulScale_4 ?_
      refine J.getI hG ciX1 rfl 0 0 rfl (Nat.le_of_ble_eq_true rfl) rfl fl_X6_222 dX6_unlawfulScale_7 ?_
      refine J.icmp_ge hG 32 dX6_unlawfulScale_10 rfl (fun h10 => ?_) (fun h10 => absurd h10 (by omega))
      refine J.bipush hG dX6_unlawfulScale_32 (by decide) (by decide) ?_
      refine J.iret hG dX6_unlawfulScale_34 ?_
      rw [hX]; dsimp only
      exact ⟨by rw [← i2]; rfl, rfl⟩
    | succ k ih =>
      intro s i0 i1 i2
      rw [fs3] at i2
      refine J.iload_n hG dX6_unlawfulScale_2 rfl rfl ?_
      refine J.aload_n hG dX6_unlawfulScale_3 rfl rfl ?_
      refine J.getR hG ciX6 rfl 1 1 rfl (Nat.le_of_ble_eq_true rfl) rfl fl_X6_19 dX6_unlawfulScale_4 ?_
      refine J.getI hG ciX1 rfl 0 0 rfl (Nat.le_of_ble_eq_true rfl) rfl fl_X6_222 dX6_unlawfulScale_7 ?_
      refine J.icmp_ge hG 32 dX6_unlawfulScale_10 rfl (fun h10 => absurd h10 (by omega)) (fun h10 => ?_)
      refine J.aload_n hG dX6_unlawfulScale_13 rfl rfl ?_
      refine J.iload_n hG dX6_unlawfulScale_14 rfl rfl ?_
      refine J.iload_n hG dX6_unlawfulScale_15 rfl rfl ?_
      refine J.iload_n hG dX6_unlawfulScale_16 rfl rfl ?_
      refine J.callV hG (X6_endBehind _ hB _ _ _ hn hl (by omega)) ok_X6_endBehind ml_X6_131 rfl rfl rfl rfl (Nat.le_of_ble_eq_true rfl) ⟨Nat.le_of_ble_eq_true rfl, Nat.le_of_ble_eq_true rfl⟩ dX6_unlawfulScale_17 rfl (fun r1 μ1 hp1 => ?_)
      obtain ⟨rfl, rfl⟩ := hp1
      refine J.iconst hG dX6_unlawfulScale_20 (by decide) ?_
      refine J.icmp_ne hG 26 dX6_unlawfulScale_21 rfl (fun h21 => ?_) (fun h21 => ?_)
      · refine J.iinc hG dX6_unlawfulScale_26 (Nat.le_of_ble_eq_true rfl) rfl (fun _ => (by omega)) ?_
        refine J.goto hG 2 dX6_unlawfulScale_29 rfl ?_
        exact ih (s + 1) (by omega) (by omega) (by rw [← i2, if_neg h21])
      · refine J.iload_n hG dX6_unlawfulScale_24 rfl rfl ?_
        refine J.iret hG dX6_unlawfulScale_25 ?_
        rw [hX]; dsimp only
        exact ⟨by rw [← i2, if_pos h21], rfl⟩
  refine J.iconst hG dX6_unlawfulScale_0 (by decide) ?_
  refine J.istore_n hG dX6_unlawfulScale_1 rfl (Nat.le_of_ble_eq_true rfl) ?_
  exact loop (μ 13 0).toNat 0 (Int.le_refl _) (by omega) rfl


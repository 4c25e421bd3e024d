def ff {α : Type} (g : Int → α → α) : Nat → Int → α → α
  | 0, _, c => c
  | k + 1, i, c => ff g k (i + 1) (g i c)
def xEY (μ : Mem) (s y v d : Int) : Int := EB (μ 19 s) (μ 20 s) (μ 14 s) (cl (μ 14 s) (v + y * d))
def xAg (μ : Mem) (s v d : Int) : Int := fs3 (fun i => if μ 72 i = s ∧ ¬ xEY μ s (μ 73 i) v d = μ 74 i then 3 else 0) (μ 71 0).toNat 0
def xFits (μ : Mem) (s : Int) : Int := smf (fun v => smf (fun d => if xAg μ s v d = -9 then 1 else 0) (-3) 7) 0 (μ 14 s + 1).toNat
def sst (ag e c : Int) : Int := if ag = -9 then (if c = -9 ∨ c = e then e else -5) else c
def xSure (μ : Mem) (s y : Int) : Int := ff (fun v c => ff (fun d c => sst (xAg μ s v d) (xEY μ s y v d) c) 7 (-3) c) (μ 14 s + 1).toNat 0 (-9)
def XBk (μ : Mem) : Prop := (0 ≤ μ 71 0 ∧ μ 71 0 ≤ 6) ∧ ∀ i : Int, 0 ≤ i → i < μ 71 0 → 0 ≤ μ 73 i ∧ μ 73 i ≤ 60
theorem xEY_b (μ : Mem) (s y v d : Int) : 0 ≤ xEY μ s y v d ∧ xEY μ s y v d ≤ 3 := EB_bound _ _ _ _
theorem sst_5 (ag e : Int) (h : 0 ≤ e) : sst ag e (-5) = -5 := by unfold sst; (repeat' split) <;> omega
theorem ff_5 {g : Int → Int → Int} (h : ∀ i, g i (-5) = -5) : ∀ (k : Nat) (i : Int), ff g k i (-5) = -5
  | 0, _ => rfl
  | k + 1, i => by rw [ff, h i, ff_5 h k (i + 1)]
theorem mul_bd (y d : Int) (hy : 0 ≤ y ∧ y ≤ 60) (hd : -3 ≤ d ∧ d ≤ 3) : -180 ≤ y * d ∧ y * d ≤ 180 := by
  have a1 : y * d ≤ y * 3 := Int.mul_le_mul_of_nonneg_left hd.2 hy.1
  have a2 : y * -3 ≤ y * d := Int.mul_le_mul_of_nonneg_left hd.1 hy.1
  omega
set_option maxRecDepth 100000 in
set_option maxHeartbeats 4000000 in
theorem X0_adds (μ : Mem) (s b : Int) (h : 0 ≤ μ 65 0 ∧ μ 65 0 ≤ 5) : CT TX md_X0_adds [aR 65, aI s, aI b] μ (fun rv μ1 => (μ 65 0 = 5 ∧ rv = some (aI 0) ∧ μ = μ1) ∨ (¬ μ 65 0 = 5 ∧ rv = some (aI 1) ∧ μ1 = up (up (up μ 66 (μ 65 0) s) 67 (μ 65 0) b) 65 0 (μ 65 0 + 1))) := by
  refine CT.of (Nat.le_of_ble_eq_true rfl) (by decide) rfl (Nat.le_of_ble_eq_true rfl) (fun X hG hX => ?_)
  have hG : G TX X RX0 cX0_adds 3 0 0 (some .boolean) := hG
  show J TX X 3 0 [some (aR 65), some (aI s), some (aI b)] [] μ
  have e1 : up μ 66 (μ 65 0) s 65 = μ 65 := up_cell _ _ _ (by decide)
  have e2 : up (up μ 66 (μ 65 0) s) 67 (up μ 66 (μ 65 0) s 65 0) b 65 = μ 65 := by rw [up_cell _ _ _ (by decide), e1]
  refine J.aload_n hG dX0_adds_0 rfl rfl ?_
  refine J.getI hG ciX0 rfl 0 0 rfl (Nat.le_of_ble_eq_true rfl) rfl fl_X0_9 dX0_adds_1 ?_
  refine J.iconst hG dX0_adds_4 (by decide) ?_
  refine J.icmp_lt hG 10 dX0_adds_5 rfl (fun h5 => ?_) (fun h5 => ?_)
  · refine J.aload_n hG dX0_adds_10 rfl rfl ?_
    refine J.getR hG ciX0 rfl 1 1 rfl (Nat.le_of_ble_eq_true rfl) rfl fl_X0_15 dX0_adds_11 ?_
    refine J.aload_n hG dX0_adds_14 rfl rfl ?_
    refine J.getI hG ciX0 rfl 0 0 rfl (Nat.le_of_ble_eq_true rfl) rfl fl_X0_9 dX0_adds_15 ?_
    refine J.iload_n hG dX0_adds_18 rfl rfl ?_
    refine J.iast hG rfl (by omega) (by omega) dX0_adds_19 ?_
    refine J.aload_n hG dX0_adds_20 rfl rfl ?_
    refine J.getR hG ciX0 rfl 2 2 rfl (Nat.le_of_ble_eq_true rfl) rfl fl_X0_19 dX0_adds_21 ?_
    refine J.aload_n hG dX0_adds_24 rfl rfl ?_
    refine J.getI hG ciX0 rfl 0 0 rfl (Nat.le_of_ble_eq_true rfl) rfl fl_X0_9 dX0_adds_25 ?_
    refine J.iload_n hG dX0_adds_28 rfl rfl ?_
    refine J.iast hG rfl (by rw [e1]; omega) (by rw [e1]; omega) dX0_adds_29 ?_
    refine J.aload_n hG dX0_adds_30 rfl rfl ?_
    refine J.dup hG dX0_adds_31 (fun _ => rfl) ?_
    refine J.getI hG ciX0 rfl 0 0 rfl (Nat.le_of_ble_eq_true rfl) rfl fl_X0_9 dX0_adds_32 ?_
    refine J.iconst hG dX0_adds_35 (by decide) ?_
    refine J.iadd hG dX0_adds_36 (fun _ _ => (by rw [e2]; omega)) ?_
    refine J.putI hG ciX0 rfl 0 0 rfl (Nat.le_of_ble_eq_true rfl) rfl fl_X0_9 rfl rfl dX0_adds_37 ?_
    refine J.iconst hG dX0_adds_40 (by decide) ?_
    refine J.zret hG (by first | exact Or.inl rfl | exact Or.inr rfl | assumption | (split <;> first | exact Or.inl rfl | exact Or.inr rfl)) dX0_adds_41 ?_
    rw [hX]; dsimp only
    rw [e2, e1]
    exact Or.inr ⟨by omega, rfl, rfl⟩
  · refine J.iconst hG dX0_adds_8 (by decide) ?_
    refine J.zret hG (by first | exact Or.inl rfl | exact Or.inr rfl | assumption | (split <;> first | exact Or.inl rfl | exact Or.inr rfl)) dX0_adds_9 ?_
    rw [hX]; dsimp only
    exact Or.inl ⟨by omega, rfl, rfl⟩

set_option maxRecDepth 100000 in
set_option maxHeartbeats 4000000 in
theorem X6_plans (μ : Mem) (hB : XB μ) (h : 0 ≤ μ 65 0 ∧ μ 65 0 ≤ 5) (s b : Int) : CT TX md_X6_plans [aR 0, aI s, aI b] μ (fun rv μ1 => if ¬ ((0 ≤ s ∧ s < μ 13 0) ∧ (-9 ≤ b ∧ b ≤ 9)) then rv = some (aI (-1)) ∧ μ1 = μ else if μ 65 0 = 5 then rv = some (aI (-3)) ∧ μ1 = μ else rv = some (aI (μ 65 0 + 1)) ∧ μ1 = up (up (up μ 66 (μ 65 0) s) 67 (μ 65 0) b) 65 0 (μ 65 0 + 1)) := by
  refine CT.of (Nat.le_of_ble_eq_true rfl) (by decide) rfl (Nat.le_of_ble_eq_true rfl) (fun X hG hX => ?_)
  have hG : G TX X RX6 cX6_plans 3 1 22 (some .int) := hG
  show J TX X 3 0 [some (aR 0), some (aI s), some (aI b)] [] μ
  refine J.aload_n hG dX6_plans_0 rfl rfl ?_
  refine J.getR hG ciX6 rfl 1 1 rfl (Nat.le_of_ble_eq_true rfl) rfl fl_X6_19 dX6_plans_1 ?_
  refine J.iload_n hG dX6_plans_4 rfl rfl ?_
  refine J.callV hG (X1_hasScale _ _) ok_X1_hasScale ml_X6_106 rfl rfl rfl rfl (Nat.le_of_ble_eq_true rfl) ⟨Nat.le_of_ble_eq_true rfl, Nat.le_of_ble_eq_true rfl⟩ dX6_plans_5 rfl (fun r1 μ1 hp1 => ?_)
  obtain ⟨rfl, rfl⟩ := hp1
  refine J.ifb_eq hG 22 dX6_plans_8 rfl (fun h8 => ?_) (fun h8 => ?_)
  · refine J.iconst hG dX6_plans_22 (by decide) ?_
    refine J.iret hG dX6_plans_23 ?_
    rw [hX]; dsimp only
    rw [if_pos (by omega)]
    exact ⟨rfl, rfl⟩
  · refine J.iload_n hG dX6_plans_11 rfl rfl ?_
    refine J.bipush hG dX6_plans_12 (by decide) (by decide) ?_
    refine J.bipush hG dX6_plans_14 (by decide) (by decide) ?_
    refine J.callS hG (X6_within _ _ _ _) ok_X6_within ml_X6_70 rfl (Nat.le_of_ble_eq_true rfl) ⟨Nat.le_of_ble_eq_true rfl, Nat.le_of_ble_eq_true rfl⟩ dX6_plans_16 rfl (fun r1 μ1 hp1 => ?_)
    obtain ⟨rfl, rfl⟩ := hp1
    refine J.ifb_ne hG 24 dX6_plans_19 rfl (fun h19 => ?_) (fun h19 => ?_)
    · refine J.aload_n hG dX6_plans_24 rfl rfl ?_
      refine J.getR hG ciX6 rfl 6 6 rfl (Nat.le_of_ble_eq_true rfl) rfl fl_X6_48 dX6_plans_25 ?_
      refine J.iload_n hG dX6_plans_28 rfl rfl ?_
      refine J.iload_n hG dX6_plans_29 rfl rfl ?_
      refine J.callV hG (X0_adds _ _ _ h) ok_X0_adds ml_X6_191 rfl rfl rfl rfl (Nat.le_of_ble_eq_true rfl) ⟨Nat.le_of_ble_eq_true rfl, Nat.le_of_ble_eq_true rfl⟩ dX6_plans_30 rfl (fun r1 μ1 hp1 => ?_)
      rcases hp1 with ⟨hq, rfl, rfl⟩ | ⟨hq, rfl, rfl⟩
      · refine J.if_eq hG 46 dX6_plans_33 rfl (fun h33 => ?_) (fun h33 => absurd h33 (by omega))
        refine J.bipush hG dX6_plans_46 (by decide) (by decide) ?_
        refine J.iret hG dX6_plans_48 ?_
        rw [hX]; dsimp only
        rw [if_neg (by omega), if_pos hq]
        exact ⟨rfl, rfl⟩
      · refine J.if_eq hG 46 dX6_plans_33 rfl (fun h33 => absurd h33 (by omega)) (fun h33 => ?_)
        refine J.aload_n hG dX6_plans_36 rfl rfl ?_
        refine J.getR hG ciX6 rfl 6 6 rfl (Nat.le_of_ble_eq_true rfl) rfl fl_X6_48 dX6_plans_37 ?_
        refine J.getI hG ciX0 rfl 0 0 rfl (Nat.le_of_ble_eq_true rfl) rfl fl_X6_102 dX6_plans_40 ?_
        refine J.goto hG 48 dX6_plans_43 rfl ?_
        refine J.iret hG dX6_plans_48 ?_
        rw [hX]; dsimp only
        rw [if_neg (by omega), if_neg hq, up_self]
        exact ⟨rfl, rfl⟩
    · refine J.iconst hG dX6_plans_22 (by decide) ?_
      refine J.iret hG dX6_plans_23 ?_
      rw [hX]; dsimp only
      rw [if_pos (by omega)]
      exact ⟨rfl, rfl⟩

set_option maxRecDepth 100000 in
set_option maxHeartbeats 4000000 in
theorem X6_drop (μ : Mem)  : CT TX md_X6_drop [aR 0] μ (fun rv μ1 => rv = some (aI (μ 65 0)) ∧ μ1 = up μ 65 0 0) := by
  refine CT.of (Nat.le_of_ble_eq_true rfl) (by decide) rfl (Nat.le_of_ble_eq_true rfl) (fun X hG hX => ?_)
  have hG : G TX X RX6 cX6_drop 2 0 0 (some .int) := hG
  show J TX X 2 0 [some (aR 0), none] [] μ
  refine J.aload_n hG dX6_drop_0 rfl rfl ?_
  refine J.getR hG ciX6 rfl 6 6 rfl (Nat.le_of_ble_eq_true rfl) rfl fl_X6_48 dX6_drop_1 ?_
  refine J.getI hG ciX0 rfl 0 0 rfl (Nat.le_of_ble_eq_true rfl) rfl fl_X6_102 dX6_drop_4 ?_
  refine J.istore_n hG dX6_drop_7 rfl (Nat.le_of_ble_eq_true rfl) ?_
  refine J.aload_n hG dX6_drop_8 rfl rfl ?_
  refine J.getR hG ciX6 rfl 6 6 rfl (Nat.le_of_ble_eq_true rfl) rfl fl_X6_48 dX6_drop_9 ?_
  refine J.iconst hG dX6_drop_12 (by decide) ?_
  refine J.putI hG ciX0 rfl 0 0 rfl (Nat.le_of_ble_eq_true rfl) rfl fl_X6_102 rfl rfl dX6_drop_13 ?_
  refine J.iload_n hG dX6_drop_16 rfl rfl ?_
  refine J.iret hG dX6_drop_17 ?_
  rw [hX]; dsimp only
  exact ⟨rfl, rfl⟩

set_option maxRecDepth 100000 in
set_option maxHeartbeats 4000000 in
theorem X4_adds (μ : Mem) (s y e : Int) (h : 0 ≤ μ 71 0 ∧ μ 71 0 ≤ 6) : CT TX md_X4_adds [aR 71, aI s, aI y, aI e] μ (fun rv μ1 => (μ 71 0 = 6 ∧ rv = some (aI 0) ∧ μ = μ1) ∨ (¬ μ 71 0 = 6 ∧ rv = some (aI 1) ∧ μ1 = up (up (up (up μ 72 (μ 71 0) s) 73 (μ 71 0) y) 74 (μ 71 0) e) 71 0 (μ 71 0 + 1))) := by
  refine CT.of (Nat.le_of_ble_eq_true rfl) (by decide) rfl (Nat.le_of_ble_eq_true rfl) (fun X hG hX => ?_)
  have hG : G TX X RX4 cX4_adds 4 0 0 (some .boolean) := hG
  show J TX X 4 0 [some (aR 71), some (aI s), some (aI y), some (aI e)] [] μ
  have e1 : up μ 72 (μ 71 0) s 71 = μ 71 := up_cell _ _ _ (by decide)
  have e2 : up (up μ 72 (μ 71 0) s) 73 (up μ 72 (μ 71 0) s 71 0) y 71 = μ 71 := by rw [up_cell _ _ _ (by decide), e1]
  have e3 : up (up (up μ 72 (μ 71 0) s) 73 (up μ 72 (μ 71 0) s 71 0) y) 74 (up (up μ 72 (μ 71 0) s) 73 (up μ 72 (μ 71 0) s 71 0) y 71 0) e 71 = μ 71 := by rw [up_cell _ _ _ (by decide), e2]
  refine J.aload_n hG dX4_adds_0 rfl rfl ?_
  refine J.getI hG ciX4 rfl 0 0 rfl (Nat.le_of_ble_eq_true rfl) rfl fl_X4_9 dX4_adds_1 ?_
  refine J.bipush hG dX4_adds_4 (by decide) (by decide) ?_
  refine J.icmp_lt hG 11 dX4_adds_6 rfl (fun h6 => ?_) (fun h6 => ?_)
  · refine J.aload_n hG dX4_adds_11 rfl rfl ?_
    refine J.getR hG ciX4 rfl 1 1 rfl (Nat.le_of_ble_eq_true rfl) rfl fl_X4_15 dX4_adds_12 ?_
    refine J.aload_n hG dX4_adds_15 rfl rfl ?_
    refine J.getI hG ciX4 rfl 0 0 rfl (Nat.le_of_ble_eq_true rfl) rfl fl_X4_9 dX4_adds_16 ?_
    refine J.iload_n hG dX4_adds_19 rfl rfl ?_
    refine J.iast hG rfl (by omega) (by omega) dX4_adds_20 ?_
    refine J.aload_n hG dX4_adds_21 rfl rfl ?_
    refine J.getR hG ciX4 rfl 2 2 rfl (Nat.le_of_ble_eq_true rfl) rfl fl_X4_19 dX4_adds_22 ?_
    refine J.aload_n hG dX4_adds_25 rfl rfl ?_
    refine J.getI hG ciX4 rfl 0 0 rfl (Nat.le_of_ble_eq_true rfl) rfl fl_X4_9 dX4_adds_26 ?_
    refine J.iload_n hG dX4_adds_29 rfl rfl ?_
    refine J.iast hG rfl (by rw [e1]; omega) (by rw [e1]; omega) dX4_adds_30 ?_
    refine J.aload_n hG dX4_adds_31 rfl rfl ?_
    refine J.getR hG ciX4 rfl 3 3 rfl (Nat.le_of_ble_eq_true rfl) rfl fl_X4_22 dX4_adds_32 ?_
    refine J.aload_n hG dX4_adds_35 rfl rfl ?_
    refine J.getI hG ciX4 rfl 0 0 rfl (Nat.le_of_ble_eq_true rfl) rfl fl_X4_9 dX4_adds_36 ?_
    refine J.iload_n hG dX4_adds_39 rfl rfl ?_
    refine J.iast hG rfl (by rw [e2]; omega) (by rw [e2]; omega) dX4_adds_40 ?_
    refine J.aload_n hG dX4_adds_41 rfl rfl ?_
    refine J.dup hG dX4_adds_42 (fun _ => rfl) ?_
    refine J.getI hG ciX4 rfl 0 0 rfl (Nat.le_of_ble_eq_true rfl) rfl fl_X4_9 dX4_adds_43 ?_
    refine J.iconst hG dX4_adds_46 (by decide) ?_
    refine J.iadd hG dX4_adds_47 (fun _ _ => (by rw [e3]; omega)) ?_
    refine J.putI hG ciX4 rfl 0 0 rfl (Nat.le_of_ble_eq_true rfl) rfl fl_X4_9 rfl rfl dX4_adds_48 ?_
    refine J.iconst hG dX4_adds_51 (by decide) ?_
    refine J.zret hG (by first | exact Or.inl rfl | exact Or.inr rfl | assumption | (split <;> first | exact Or.inl rfl | exact Or.inr rfl)) dX4_adds_52 ?_
    rw [hX]; dsimp only
    rw [e3, e2, e1]
    exact Or.inr ⟨by omega, rfl, rfl⟩
  · refine J.iconst hG dX4_adds_9 (by decide) ?_
    refine J.zret hG (by first | exact Or.inl rfl | exact Or.inr rfl | assumption | (split <;> first | exact Or.inl rfl | exact Or.inr rfl)) dX4_adds_10 ?_
    rw [hX]; dsimp only
    exact Or.inl ⟨by omega, rfl, rfl⟩

set_option maxRecDepth 100000 in
set_option maxHeartbeats 4000000 in
theorem X6_books (μ : Mem) (hB : XB μ) (h : 0 ≤ μ 71 0 ∧ μ 71 0 ≤ 6) (s y e : Int) : CT TX md_X6_books [aR 0, aI s, aI y, aI e] μ (fun rv μ1 => if ¬ ((0 ≤ s ∧ s < μ 13 0) ∧ (0 ≤ y ∧ y ≤ 60) ∧ (0 ≤ e ∧ e ≤ 3)) then rv = some (aI (-1)) ∧ μ1 = μ else if μ 71 0 = 6 then rv = some (aI (-3)) ∧ μ1 = μ else rv = some (aI (μ 71 0 + 1)) ∧ μ1 = up (up (up (up μ 72 (μ 71 0) s) 73 (μ 71 0) y) 74 (μ 71 0) e) 71 0 (μ 71 0 + 1)) := by
  refine CT.of (Nat.le_of_ble_eq_true rfl) (by decide) rfl (Nat.le_of_ble_eq_true rfl) (fun X hG hX => ?_)
  have hG : G TX X RX6 cX6_books 4 1 23 (some .int) := hG
  show J TX X 4 0 [some (aR 0), some (aI s), some (aI y), some (aI e)] [] μ
  refine J.aload_n hG dX6_books_0 rfl rfl ?_
  refine J.getR hG ciX6 rfl 1 1 rfl (Nat.le_of_ble_eq_true rfl) rfl fl_X6_19 dX6_books_1 ?_
  refine J.iload_n hG dX6_books_4 rfl rfl ?_
  refine J.callV hG (X1_hasScale _ _) ok_X1_hasScale ml_X6_106 rfl rfl rfl rfl (Nat.le_of_ble_eq_true rfl) ⟨Nat.le_of_ble_eq_true rfl, Nat.le_of_ble_eq_true rfl⟩ dX6_books_5 rfl (fun r1 μ1 hp1 => ?_)
  obtain ⟨rfl, rfl⟩ := hp1
  refine J.ifb_eq hG 30 dX6_books_8 rfl (fun h8 => ?_) (fun h8 => ?_)
  · refine J.iconst hG dX6_books_30 (by decide) ?_
    refine J.iret hG dX6_books_31 ?_
    rw [hX]; dsimp only
    rw [if_pos (by omega)]
    exact ⟨rfl, rfl⟩
  · refine J.iload_n hG dX6_books_11 rfl rfl ?_
    refine J.iconst hG dX6_books_12 (by decide) ?_
    refine J.bipush hG dX6_books_13 (by decide) (by decide) ?_
    refine J.callS hG (X6_within _ _ _ _) ok_X6_within ml_X6_70 rfl (Nat.le_of_ble_eq_true rfl) ⟨Nat.le_of_ble_eq_true rfl, Nat.le_of_ble_eq_true rfl⟩ dX6_books_15 rfl (fun r1 μ1 hp1 => ?_)
    obtain ⟨rfl, rfl⟩ := hp1
    refine J.ifb_eq hG 30 dX6_books_18 rfl (fun h18 => ?_) (fun h18 => ?_)
    · refine J.iconst hG dX6_books_30 (by decide) ?_
      refine J.iret hG dX6_books_31 ?_
      rw [hX]; dsimp only
      rw [if_pos (by omega)]
      exact ⟨rfl, rfl⟩
    · refine J.iload_n hG dX6_books_21 rfl rfl ?_
      refine J.iconst hG dX6_books_22 (by decide) ?_
      refine J.iconst hG dX6_books_23 (by decide) ?_
      refine J.callS hG (X6_within _ _ _ _) ok_X6_within ml_X6_70 rfl (Nat.le_of_ble_eq_true rfl) ⟨Nat.le_of_ble_eq_true rfl, Nat.le_of_ble_eq_true rfl⟩ dX6_books_24 rfl (fun r1 μ1 hp1 => ?_)
      obtain ⟨rfl, rfl⟩ := hp1
      refine J.ifb_ne hG 32 dX6_books_27 rfl (fun h27 => ?_) (fun h27 => ?_)
      · refine J.aload_n hG dX6_books_32 rfl rfl ?_
        refine J.getR hG ciX6 rfl 7 7 rfl (Nat.le_of_ble_eq_true rfl) rfl fl_X6_55 dX6_books_33 ?_
        refine J.iload_n hG dX6_books_36 rfl rfl ?_
        refine J.iload_n hG dX6_books_37 rfl rfl ?_
        refine J.iload_n hG dX6_books_38 rfl rfl ?_
        refine J.callV hG (X4_adds _ _ _ _ h) ok_X4_adds ml_X6_213 rfl rfl rfl rfl (Nat.le_of_ble_eq_true rfl) ⟨Nat.le_of_ble_eq_true rfl, Nat.le_of_ble_eq_true rfl⟩ dX6_books_39 rfl (fun r1 μ1 hp1 => ?_)
        rcases hp1 with ⟨hq, rfl, rfl⟩ | ⟨hq, rfl, rfl⟩
        · refine J.if_eq hG 55 dX6_books_42 rfl (fun h42 => ?_) (fun h42 => absurd h42 (by omega))
          refine J.bipush hG dX6_books_55 (by decide) (by decide) ?_
          refine J.iret hG dX6_books_57 ?_
          rw [hX]; dsimp only
          rw [if_neg (by omega), if_pos hq]
          exact ⟨rfl, rfl⟩
        · refine J.if_eq hG 55 dX6_books_42 rfl (fun h42 => absurd h42 (by omega)) (fun h42 => ?_)
          refine J.aload_n hG dX6_books_45 rfl rfl ?_
          refine J.getR hG ciX6 rfl 7 7 rfl (Nat.le_of_ble_eq_true rfl) rfl fl_X6_55 dX6_books_46 ?_
          refine J.getI hG ciX4 rfl 0 0 rfl (Nat.le_of_ble_eq_true rfl) rfl fl_X6_105 dX6_books_49 ?_
          refine J.goto hG 57 dX6_books_52 rfl ?_
          refine J.iret hG dX6_books_57 ?_
          rw [hX]; dsimp only
          rw [if_neg (by omega), if_neg hq, up_self]
          exact ⟨rfl, rfl⟩
      · refine J.iconst hG dX6_books_30 (by decide) ?_
        refine J.iret hG dX6_books_31 ?_
        rw [hX]; dsimp only
        rw [if_pos (by omega)]
        exact ⟨rfl, rfl⟩

set_option maxRecDepth 100000 in
set_option maxHeartbeats 4000000 in
theorem X6_burn (μ : Mem)  : CT TX md_X6_burn [aR 0] μ (fun rv μ1 => rv = some (aI (μ 71 0)) ∧ μ1 = up μ 71 0 0) := by
  refine CT.of (Nat.le_of_ble_eq_true rfl) (by decide) rfl (Nat.le_of_ble_eq_true rfl) (fun X hG hX => ?_)
  have hG : G TX X RX6 cX6_burn 2 0 0 (some .int) := hG
  show J TX X 2 0 [some (aR 0), none] [] μ
  refine J.aload_n hG dX6_burn_0 rfl rfl ?_
  refine J.getR hG ciX6 rfl 7 7 rfl (Nat.le_of_ble_eq_true rfl) rfl fl_X6_55 dX6_burn_1 ?_
  refine J.getI hG ciX4 rfl 0 0 rfl (Nat.le_of_ble_eq_true rfl) rfl fl_X6_105 dX6_burn_4 ?_
  refine J.istore_n hG dX6_burn_7 rfl (Nat.le_of_ble_eq_true rfl) ?_
  refine J.aload_n hG dX6_burn_8 rfl rfl ?_
  refine J.getR hG ciX6 rfl 7 7 rfl (Nat.le_of_ble_eq_true rfl) rfl fl_X6_55 dX6_burn_9 ?_
  refine J.iconst hG dX6_burn_12 (by decide) ?_
  refine J.putI hG ciX4 rfl 0 0 rfl (Nat.le_of_ble_eq_true rfl) rfl fl_X6_105 rfl rfl dX6_burn_13 ?_
  refine J.iload_n hG dX6_burn_16 rfl rfl ?_
  refine J.iret hG dX6_burn_17 ?_
  rw [hX]; dsimp only
  exact ⟨rfl, rfl⟩

set_option maxRecDepth 100000 in
set_option maxHeartbeats 4000000 in
theorem X6_endInYear (μ : Mem) (hB : XB μ) (s y v d : Int) (hs : 0 ≤ s ∧ s < μ 13 0) (hy : 0 ≤ y ∧ y ≤ 60) (hv : 0 ≤ v ∧ v ≤ μ 14 s) (hd : -3 ≤ d ∧ d ≤ 3) : CT TX md_X6_endInYear [aR 0, aI s, aI y, aI v, aI d] μ (fun rv μ1 => rv = some (aI (xEY μ s y v d)) ∧ μ = μ1) := by
  refine CT.of (Nat.le_of_ble_eq_true rfl) (by decide) rfl (Nat.le_of_ble_eq_true rfl) (fun X hG hX => ?_)
  have hG : G TX X RX6 cX6_endInYear 5 2 52 (some .int) := hG
  show J TX X 5 0 [some (aR 0), some (aI s), some (aI y), some (aI v), some (aI d)] [] μ
  have hB2 := hB
  obtain ⟨h1, h2, h3, h4, h5, h6⟩ := hB2
  have q5 := h5 s hs.1 hs.2
  have mb := mul_bd y d hy hd
  have cb := cl_bound (r := μ 14 s) (x := v + y * d) (by omega)
  refine J.aload_n hG dX6_endInYear_0 rfl rfl ?_
  refine J.iload_n hG dX6_endInYear_1 rfl rfl ?_
  refine J.iload_n hG dX6_endInYear_2 rfl rfl ?_
  refine J.iload_n hG dX6_endInYear_3 rfl rfl ?_
  refine J.iload hG dX6_endInYear_4 rfl ?_
  refine J.imul hG dX6_endInYear_6 (fun _ _ => (by omega)) ?_
  refine J.aload_n hG dX6_endInYear_7 rfl rfl ?_
  refine J.getR hG ciX6 rfl 1 1 rfl (Nat.le_of_ble_eq_true rfl) rfl fl_X6_19 dX6_endInYear_8 ?_
  refine J.getR hG ciX1 rfl 4 4 rfl (Nat.le_of_ble_eq_true rfl) rfl fl_X6_112 dX6_endInYear_11 ?_
  refine J.iload_n hG dX6_endInYear_14 rfl rfl ?_
  refine J.iald hG rfl (by omega) (by omega) dX6_endInYear_15 ?_
  refine J.callS hG (X6_moved _ _ _ _ (by omega) (by omega)) ok_X6_moved ml_X6_153 rfl (Nat.le_of_ble_eq_true rfl) ⟨Nat.le_of_ble_eq_true rfl, Nat.le_of_ble_eq_true rfl⟩ dX6_endInYear_16 rfl (fun r1 μ1 hp1 => ?_)
  obtain ⟨rfl, rfl⟩ := hp1
  refine J.callV hG (X6_endOf _ _ _ (by omega) (by omega)) ok_X6_endOf ml_X6_135 rfl rfl rfl rfl (Nat.le_of_ble_eq_true rfl) ⟨Nat.le_of_ble_eq_true rfl, Nat.le_of_ble_eq_true rfl⟩ dX6_endInYear_19 rfl (fun r1 μ1 hp1 => ?_)
  obtain ⟨rfl, rfl⟩ := hp1
  refine J.iret hG dX6_endInYear_22 ?_
  rw [hX]; dsimp only
  exact ⟨rfl, rfl⟩

set_option maxRecDepth 100000 in
set_option maxHeartbeats 4000000 in
theorem X6_agreesWithBooks (μ : Mem) (hB : XB μ) (hK : XBk μ) (s v d : Int) (hs : 0 ≤ s ∧ s < μ 13 0) (hv : 0 ≤ v ∧ v ≤ μ 14 s) (hd : -3 ≤ d ∧ d ≤ 3) : CT TX md_X6_agreesWithBooks [aR 0, aI s, aI v, aI d] μ (fun rv μ1 => rv = some (aI (if xAg μ s v d = -9 then 1 else 0)) ∧ μ = μ1) := by
  refine CT.of (Nat.le_of_ble_eq_true rfl) (by decide) rfl (Nat.le_of_ble_eq_true rfl) (fun X hG hX => ?_)
  have hG : G TX X RX6 cX6_agreesWithBooks 5 3 76 (some .boolean) := hG
  show J TX X 5 0 [some (aR 0), some (aI s), some (aI v), some (aI d), none] [] μ
  have hB2 := hB
  obtain ⟨h1, h2, h3, h4, h5, h6⟩ := hB2
  have lp : ∀ (k : Nat) (i : Int), 0 ≤ i → i + k = μ 71 0 → (fs3 (fun i => if μ 72 i = s ∧ ¬ xEY μ s (μ 73 i) v d = μ 74 i then 3 else 0) k i = xAg μ s v d) → J TX X 5 3 [some (aR 0), some (aI s), some (aI v), some (aI d), some (aI i)] [] μ := by
    intro k
    induction k with
    | zero =>
      intro i  i0 i1 i2
      simp only [fs3] at i2
      refine J.iload hG dX6_agreesWithBooks_3 rfl ?_
      refine J.aload_n hG dX6_agreesWithBooks_5 rfl rfl ?_
      refine J.getR hG ciX6 rfl 7 7 rfl (Nat.le_of_ble_eq_true rfl) rfl fl_X6_55 dX6_agreesWithBooks_6 ?_
      refine J.getI hG ciX4 rfl 0 0 rfl (Nat.le_of_ble_eq_true rfl) rfl fl_X6_105 dX6_agreesWithBooks_9 ?_
      refine J.icmp_ge hG 67 dX6_agreesWithBooks_12 rfl (fun h12 => ?_) (fun h12 => absurd h12 (by omega))
      refine J.iconst hG dX6_agreesWithBooks_67 (by decide) ?_
      refine J.zret hG (by first | exact Or.inl rfl | exact Or.inr rfl | assumption | (split <;> first | exact Or.inl rfl | exact Or.inr rfl)) dX6_agreesWithBooks_68 ?_
      rw [hX]; dsimp only
      exact ⟨by rw [if_pos i2.symm], rfl⟩
    | succ k ih =>
      intro i  i0 i1 i2
      rw [fs3] at i2
      have qk := hK.2 i (by omega) (by omega)
      have qk0 := hK.1
      refine J.iload hG dX6_agreesWithBooks_3 rfl ?_
      refine J.aload_n hG dX6_agreesWithBooks_5 rfl rfl ?_
      refine J.getR hG ciX6 rfl 7 7 rfl (Nat.le_of_ble_eq_true rfl) rfl fl_X6_55 dX6_agreesWithBooks_6 ?_
      refine J.getI hG ciX4 rfl 0 0 rfl (Nat.le_of_ble_eq_true rfl) rfl fl_X6_105 dX6_agreesWithBooks_9 ?_
      refine J.icmp_ge hG 67 dX6_agreesWithBooks_12 rfl (fun h12 => absurd h12 (by omega)) (fun h12 => ?_)
      refine J.aload_n hG dX6_agreesWithBooks_15 rfl rfl ?_
      refine J.getR hG ciX6 rfl 7 7 rfl (Nat.le_of_ble_eq_true rfl) rfl fl_X6_55 dX6_agreesWithBooks_16 ?_
      refine J.getR hG ciX4 rfl 1 1 rfl (Nat.le_of_ble_eq_true rfl) rfl fl_X6_307 dX6_agreesWithBooks_19 ?_
      refine J.iload hG dX6_agreesWithBooks_22 rfl ?_
      refine J.iald hG rfl (by omega) (by omega) dX6_agreesWithBooks_24 ?_
      refine J.iload_n hG dX6_agreesWithBooks_25 rfl rfl ?_
      refine J.icmp_ne hG 61 dX6_agreesWithBooks_26 rfl (fun h26 => ?_) (fun h26 => ?_)
      · refine J.iinc hG dX6_agreesWithBooks_61 (Nat.le_of_ble_eq_true rfl) rfl (fun _ => (by omega)) ?_
        refine J.goto hG 3 dX6_agreesWithBooks_64 rfl ?_
        have e : ¬ (if μ 72 i = s ∧ ¬ xEY μ s (μ 73 i) v d = μ 74 i then (3 : Int) else 0) = 3 := by rw [if_neg (by omega)]; omega
        rw [if_neg e] at i2
        exact ih (i + 1) (by omega) (by omega) i2
      · refine J.aload_n hG dX6_agreesWithBooks_29 rfl rfl ?_
        refine J.iload_n hG dX6_agreesWithBooks_30 rfl rfl ?_
        refine J.aload_n hG dX6_agreesWithBooks_31 rfl rfl ?_
        refine J.getR hG ciX6 rfl 7 7 rfl (Nat.le_of_ble_eq_true rfl) rfl fl_X6_55 dX6_agreesWithBooks_32 ?_
        refine J.getR hG ciX4 rfl 2 2 rfl (Nat.le_of_ble_eq_true rfl) rfl fl_X6_308 dX6_agreesWithBooks_35 ?_
        refine J.iload hG dX6_agreesWithBooks_38 rfl ?_
        refine J.iald hG rfl (by omega) (by omega) dX6_agreesWithBooks_40 ?_
        refine J.iload_n hG dX6_agreesWithBooks_41 rfl rfl ?_
        refine J.iload_n hG dX6_agreesWithBooks_42 rfl rfl ?_
        refine J.callV hG (X6_endInYear _ hB _ _ _ _ hs (by omega) hv hd) ok_X6_endInYear ml_X6_218 rfl rfl rfl rfl (Nat.le_of_ble_eq_true rfl) ⟨Nat.le_of_ble_eq_true rfl, Nat.le_of_ble_eq_true rfl⟩ dX6_agreesWithBooks_43 rfl (fun r1 μ1 hp1 => ?_)
        obtain ⟨rfl, rfl⟩ := hp1
        refine J.aload_n hG dX6_agreesWithBooks_46 rfl rfl ?_
        refine J.getR hG ciX6 rfl 7 7 rfl (Nat.le_of_ble_eq_true rfl) rfl fl_X6_55 dX6_agreesWithBooks_47 ?_
        refine J.getR hG ciX4 rfl 3 3 rfl (Nat.le_of_ble_eq_true rfl) rfl fl_X6_311 dX6_agreesWithBooks_50 ?_
        refine J.iload hG dX6_agreesWithBooks_53 rfl ?_
        refine J.iald hG rfl (by omega) (by omega) dX6_agreesWithBooks_55 ?_
        refine J.icmp_eq hG 61 dX6_agreesWithBooks_56 rfl (fun h56 => ?_) (fun h56 => ?_)
        · refine J.iinc hG dX6_agreesWithBooks_61 (Nat.le_of_ble_eq_true rfl) rfl (fun _ => (by omega)) ?_
          refine J.goto hG 3 dX6_agreesWithBooks_64 rfl ?_
          have e : ¬ (if μ 72 i = s ∧ ¬ xEY μ s (μ 73 i) v d = μ 74 i then (3 : Int) else 0) = 3 := by rw [if_neg (by omega)]; omega
          rw [if_neg e] at i2
          exact ih (i + 1) (by omega) (by omega) i2
        · refine J.iconst hG dX6_agreesWithBooks_59 (by decide) ?_
          refine J.zret hG (by first | exact Or.inl rfl | exact Or.inr rfl | assumption | (split <;> first | exact Or.inl rfl | exact Or.inr rfl)) dX6_agreesWithBooks_60 ?_
          rw [hX]; dsimp only
          have e : (if μ 72 i = s ∧ ¬ xEY μ s (μ 73 i) v d = μ 74 i then (3 : Int) else 0) = 3 := if_pos (by omega)
          rw [if_pos e] at i2
          exact ⟨by rw [if_neg (by omega)], rfl⟩
  refine J.iconst hG dX6_agreesWithBooks_0 (by decide) ?_
  refine J.istore hG dX6_agreesWithBooks_1 (Nat.le_of_ble_eq_true rfl) ?_
  exact lp (μ 71 0).toNat 0 (Int.le_refl _) (by have := hK.1; omega) rfl

set_option maxRecDepth 100000 in
set_option maxHeartbeats 4000000 in
theorem X6_fits (μ : Mem) (hB : XB μ) (hK : XBk μ) (s : Int) : CT TX md_X6_fits [aR 0, aI s] μ (fun rv μ1 => rv = some (aI (if 0 ≤ s ∧ s < μ 13 0 then xFits μ s else -1)) ∧ μ = μ1) := by
  refine CT.of (Nat.le_of_ble_eq_true rfl) (by decide) rfl (Nat.le_of_ble_eq_true rfl) (fun X hG hX => ?_)
  have hG : G TX X RX6 cX6_fits 5 4 100 (some .int) := hG
  show J TX X 5 0 [some (aR 0), some (aI s), none, none, none] [] μ
  have hB2 := hB
  obtain ⟨h1, h2, h3, h4, h5, h6⟩ := hB2
  refine J.aload_n hG dX6_fits_0 rfl rfl ?_
  refine J.getR hG ciX6 rfl 1 1 rfl (Nat.le_of_ble_eq_true rfl) rfl fl_X6_19 dX6_fits_1 ?_
  refine J.iload_n hG dX6_fits_4 rfl rfl ?_
  refine J.callV hG (X1_hasScale _ _) ok_X1_hasScale ml_X6_106 rfl rfl rfl rfl (Nat.le_of_ble_eq_true rfl) ⟨Nat.le_of_ble_eq_true rfl, Nat.le_of_ble_eq_true rfl⟩ dX6_fits_5 rfl (fun r1 μ1 hp1 => ?_)
  obtain ⟨rfl, rfl⟩ := hp1
  refine J.ifb_ne hG 13 dX6_fits_8 rfl (fun h8 => ?_) (fun h8 => ?_)
  · refine J.iconst hG dX6_fits_13 (by decide) ?_
    refine J.istore_n hG dX6_fits_14 rfl (Nat.le_of_ble_eq_true rfl) ?_
    refine J.iconst hG dX6_fits_15 (by decide) ?_
    refine J.istore_n hG dX6_fits_16 rfl (Nat.le_of_ble_eq_true rfl) ?_
    have q5 := h5 s (by omega) (by omega)
    have lp : ∀ (k : Nat) (v : Int) (a : Int), 0 ≤ v → v + k = μ 14 s + 1 → (0 ≤ a ∧ a ≤ 7 * v) → (a + smf (fun v => smf (fun d => if xAg μ s v d = -9 then 1 else 0) (-3) 7) v k = xFits μ s) → J TX X 5 17 [some (aR 0), some (aI s), some (aI a), some (aI v), none] [] μ := by
      intro k
      induction k with
      | zero =>
        intro v a i0 i1 i2 i3
        refine J.iload_n hG dX6_fits_17 rfl rfl ?_
        refine J.aload_n hG dX6_fits_18 rfl rfl ?_
        refine J.getR hG ciX6 rfl 1 1 rfl (Nat.le_of_ble_eq_true rfl) rfl fl_X6_19 dX6_fits_19 ?_
        refine J.getR hG ciX1 rfl 4 4 rfl (Nat.le_of_ble_eq_true rfl) rfl fl_X6_112 dX6_fits_22 ?_
        refine J.iload_n hG dX6_fits_25 rfl rfl ?_
        refine J.iald hG rfl (by omega) (by omega) dX6_fits_26 ?_
        refine J.icmp_gt hG 66 dX6_fits_27 rfl (fun h27 => ?_) (fun h27 => absurd h27 (by omega))
        refine J.iload_n hG dX6_fits_66 rfl rfl ?_
        refine J.iret hG dX6_fits_67 ?_
        rw [hX]; dsimp only
        exact ⟨by rw [if_pos (by omega), ← i3]; simp only [smf, Int.add_zero], rfl⟩
      | succ k ih =>
        intro v a i0 i1 i2 i3
        rw [smf] at i3
        have ih0 := ih
        clear ih
        have lp2 : ∀ (k : Nat) (d : Int) (a2 : Int), -3 ≤ d → d + k = 4 → (0 ≤ a2 ∧ a2 ≤ 7 * v + (d + 3)) → (a2 + smf (fun d => if xAg μ s v d = -9 then 1 else 0) d k = a + smf (fun d => if xAg μ s v d = -9 then 1 else 0) (-3) 7) → J TX X 5 34 [some (aR 0), some (aI s), some (aI a2), some (aI v), some (aI d)] [] μ := by
          intro k
          induction k with
          | zero =>
            intro d a2 i8 i9 j2 j3
            refine J.iload hG dX6_fits_34 rfl ?_
            refine J.iconst hG dX6_fits_36 (by decide) ?_
            refine J.icmp_gt hG 60 dX6_fits_37 rfl (fun h37 => ?_) (fun h37 => absurd h37 (by omega))
            refine J.iinc hG dX6_fits_60 (Nat.le_of_ble_eq_true rfl) rfl (fun _ => (by omega)) ?_
            refine J.goto hG 17 dX6_fits_63 rfl ?_
            simp only [smf, Int.add_zero] at j3
            exact J.drop 4 (ih0 (v + 1) a2 (by omega) (by omega) (by omega) (by simp only [smf, Int.add_zero] at i3 j3 ⊢; omega))
          | succ k ih =>
            intro d a2 i8 i9 j2 j3
            rw [smf] at j3
            refine J.iload hG dX6_fits_34 rfl ?_
            refine J.iconst hG dX6_fits_36 (by decide) ?_
            refine J.icmp_gt hG 60 dX6_fits_37 rfl (fun h37 => absurd h37 (by omega)) (fun h37 => ?_)
            refine J.aload_n hG dX6_fits_40 rfl rfl ?_
            refine J.iload_n hG dX6_fits_41 rfl rfl ?_
            refine J.iload_n hG dX6_fits_42 rfl rfl ?_
            refine J.iload hG dX6_fits_43 rfl ?_
            refine J.callV hG (X6_agreesWithBooks _ hB hK _ _ _ (by omega) (by omega) (by omega)) ok_X6_agreesWithBooks ml_X6_215 rfl rfl rfl rfl (Nat.le_of_ble_eq_true rfl) ⟨Nat.le_of_ble_eq_true rfl, Nat.le_of_ble_eq_true rfl⟩ dX6_fits_45 rfl (fun r1 μ1 hp1 => ?_)
            obtain ⟨rfl, rfl⟩ := hp1
            refine J.ifb_eq hG 54 dX6_fits_48 rfl (fun h48 => ?_) (fun h48 => ?_)
            · refine J.iinc hG dX6_fits_54 (Nat.le_of_ble_eq_true rfl) rfl (fun _ => (by omega)) ?_
              refine J.goto hG 34 dX6_fits_57 rfl ?_
              exact ih (d + 1) _ (by omega) (by omega) (by omega) (by first | (rw [if_pos (by omega)] at j3; omega) | (rw [if_neg (by omega)] at j3; omega))
            · refine J.iinc hG dX6_fits_51 (Nat.le_of_ble_eq_true rfl) rfl (fun _ => (by omega)) ?_
              refine J.iinc hG dX6_fits_54 (Nat.le_of_ble_eq_true rfl) rfl (fun _ => (by omega)) ?_
              refine J.goto hG 34 dX6_fits_57 rfl ?_
              exact ih (d + 1) _ (by omega) (by omega) (by omega) (by first | (rw [if_pos (by omega)] at j3; omega) | (rw [if_neg (by omega)] at j3; omega))
        refine J.iload_n hG dX6_fits_17 rfl rfl ?_
        refine J.aload_n hG dX6_fits_18 rfl rfl ?_
        refine J.getR hG ciX6 rfl 1 1 rfl (Nat.le_of_ble_eq_true rfl) rfl fl_X6_19 dX6_fits_19 ?_
        refine J.getR hG ciX1 rfl 4 4 rfl (Nat.le_of_ble_eq_true rfl) rfl fl_X6_112 dX6_fits_22 ?_
        refine J.iload_n hG dX6_fits_25 rfl rfl ?_
        refine J.iald hG rfl (by omega) (by omega) dX6_fits_26 ?_
        refine J.icmp_gt hG 66 dX6_fits_27 rfl (fun h27 => absurd h27 (by omega)) (fun h27 => ?_)
        refine J.bipush hG dX6_fits_30 (by decide) (by decide) ?_
        refine J.istore hG dX6_fits_32 (Nat.le_of_ble_eq_true rfl) ?_
        exact lp2 7 (-3) a (Int.le_refl _) (by omega) (by omega) rfl
    exact lp (μ 14 s + 1).toNat 0 0 (Int.le_refl _) (by omega) (by omega) (by unfold xFits; omega)
  · refine J.iconst hG dX6_fits_11 (by decide) ?_
    refine J.iret hG dX6_fits_12 ?_
    rw [hX]; dsimp only
    exact ⟨by congr 2; try ((repeat' split) <;> first | rfl | (exfalso; omega) | omega), rfl⟩

set_option maxRecDepth 100000 in
set_option maxHeartbeats 4000000 in
theorem X6_sure (μ : Mem) (hB : XB μ) (hK : XBk μ) (s y : Int) : CT TX md_X6_sure [aR 0, aI s, aI y] μ (fun rv μ1 => rv = some (aI (if (0 ≤ s ∧ s < μ 13 0) ∧ (0 ≤ y ∧ y ≤ 60) then xSure μ s y else -1)) ∧ μ = μ1) := by
  refine CT.of (Nat.le_of_ble_eq_true rfl) (by decide) rfl (Nat.le_of_ble_eq_true rfl) (fun X hG hX => ?_)
  have hG : G TX X RX6 cX6_sure 7 4 100 (some .int) := hG
  show J TX X 7 0 [some (aR 0), some (aI s), some (aI y), none, none, none, none] [] μ
  have hB2 := hB
  obtain ⟨h1, h2, h3, h4, h5, h6⟩ := hB2
  refine J.aload_n hG dX6_sure_0 rfl rfl ?_
  refine J.getR hG ciX6 rfl 1 1 rfl (Nat.le_of_ble_eq_true rfl) rfl fl_X6_19 dX6_sure_1 ?_
  refine J.iload_n hG dX6_sure_4 rfl rfl ?_
  refine J.callV hG (X1_hasScale _ _) ok_X1_hasScale ml_X6_106 rfl rfl rfl rfl (Nat.le_of_ble_eq_true rfl) ⟨Nat.le_of_ble_eq_true rfl, Nat.le_of_ble_eq_true rfl⟩ dX6_sure_5 rfl (fun r1 μ1 hp1 => ?_)
  obtain ⟨rfl, rfl⟩ := hp1
  refine J.ifb_eq hG 21 dX6_sure_8 rfl (fun h8 => ?_) (fun h8 => ?_)
  · refine J.iconst hG dX6_sure_21 (by decide) ?_
    refine J.iret hG dX6_sure_22 ?_
    rw [hX]; dsimp only
    exact ⟨by congr 2; try ((repeat' split) <;> first | rfl | (exfalso; omega) | omega), rfl⟩
  · refine J.iload_n hG dX6_sure_11 rfl rfl ?_
    refine J.iconst hG dX6_sure_12 (by decide) ?_
    refine J.bipush hG dX6_sure_13 (by decide) (by decide) ?_
    refine J.callS hG (X6_within _ _ _ _) ok_X6_within ml_X6_70 rfl (Nat.le_of_ble_eq_true rfl) ⟨Nat.le_of_ble_eq_true rfl, Nat.le_of_ble_eq_true rfl⟩ dX6_sure_15 rfl (fun r1 μ1 hp1 => ?_)
    obtain ⟨rfl, rfl⟩ := hp1
    refine J.ifb_ne hG 23 dX6_sure_18 rfl (fun h18 => ?_) (fun h18 => ?_)
    · refine J.bipush hG dX6_sure_23 (by decide) (by decide) ?_
      refine J.istore_n hG dX6_sure_25 rfl (Nat.le_of_ble_eq_true rfl) ?_
      refine J.iconst hG dX6_sure_26 (by decide) ?_
      refine J.istore hG dX6_sure_27 (Nat.le_of_ble_eq_true rfl) ?_
      have q5 := h5 s (by omega) (by omega)
      have lp : ∀ (k : Nat) (v : Int) (c : Int), 0 ≤ v → v + k = μ 14 s + 1 → (c = -9 ∨ 0 ≤ c) → (ff (fun v c => ff (fun d c => sst (xAg μ s v d) (xEY μ s y v d) c) 7 (-3) c) k v c = xSure μ s y) → J TX X 7 29 [some (aR 0), some (aI s), some (aI y), some (aI c), some (aI v), none, none] [] μ := by
        intro k
        induction k with
        | zero =>
          intro v c i0 i1 i2 i3
          simp only [ff] at i3
          refine J.iload hG dX6_sure_29 rfl ?_
          refine J.aload_n hG dX6_sure_31 rfl rfl ?_
          refine J.getR hG ciX6 rfl 1 1 rfl (Nat.le_of_ble_eq_true rfl) rfl fl_X6_19 dX6_sure_32 ?_
          refine J.getR hG ciX1 rfl 4 4 rfl (Nat.le_of_ble_eq_true rfl) rfl fl_X6_112 dX6_sure_35 ?_
          refine J.iload_n hG dX6_sure_38 rfl rfl ?_
          refine J.iald hG rfl (by omega) (by omega) dX6_sure_39 ?_
          refine J.icmp_gt hG 107 dX6_sure_40 rfl (fun h40 => ?_) (fun h40 => absurd h40 (by omega))
          refine J.iload_n hG dX6_sure_107 rfl rfl ?_
          refine J.iret hG dX6_sure_108 ?_
          rw [hX]; dsimp only
          exact ⟨by rw [if_pos (by omega), ← i3], rfl⟩
        | succ k ih =>
          intro v c i0 i1 i2 i3
          rw [ff] at i3
          have ih0 := ih
          clear ih
          rename Nat => k_
          have lp2 : ∀ (k : Nat) (d : Int) (c2 : Int), -3 ≤ d → d + k = 4 → (c2 = -9 ∨ 0 ≤ c2) → (ff (fun v c => ff (fun d c => sst (xAg μ s v d) (xEY μ s y v d) c) 7 (-3) c) k_ (v + 1) (ff (fun d c => sst (xAg μ s v d) (xEY μ s y v d) c) k d c2) = xSure μ s y) → J TX X 7 47 [some (aR 0), some (aI s), some (aI y), some (aI c2), some (aI v), some (aI d), none] [] μ := by
            intro k
            induction k with
            | zero =>
              intro d c2 i8 i9 j2 j3
              simp only [ff] at j3
              refine J.iload hG dX6_sure_47 rfl ?_
              refine J.iconst hG dX6_sure_49 (by decide) ?_
              refine J.icmp_gt hG 101 dX6_sure_50 rfl (fun h50 => ?_) (fun h50 => absurd h50 (by omega))
              refine J.iinc hG dX6_sure_101 (Nat.le_of_ble_eq_true rfl) rfl (fun _ => (by omega)) ?_
              refine J.goto hG 29 dX6_sure_104 rfl ?_
              exact J.drop 5 (ih0 (v + 1) c2 (by omega) (by omega) j2 j3)
            | succ k ih =>
              intro d c2 i8 i9 j2 j3
              rw [ff] at j3
              have eb := xEY_b μ s y v d
              refine J.iload hG dX6_sure_47 rfl ?_
              refine J.iconst hG dX6_sure_49 (by decide) ?_
              refine J.icmp_gt hG 101 dX6_sure_50 rfl (fun h50 => absurd h50 (by omega)) (fun h50 => ?_)
              refine J.aload_n hG dX6_sure_53 rfl rfl ?_
              refine J.iload_n hG dX6_sure_54 rfl rfl ?_
              refine J.iload hG dX6_sure_55 rfl ?_
              refine J.iload hG dX6_sure_57 rfl ?_
              refine J.callV hG (X6_agreesWithBooks _ hB hK _ _ _ (by omega) (by omega) (by omega)) ok_X6_agreesWithBooks ml_X6_215 rfl rfl rfl rfl (Nat.le_of_ble_eq_true rfl) ⟨Nat.le_of_ble_eq_true rfl, Nat.le_of_ble_eq_true rfl⟩ dX6_sure_59 rfl (fun r1 μ1 hp1 => ?_)
              obtain ⟨rfl, rfl⟩ := hp1
              refine J.ifb_eq hG 95 dX6_sure_62 rfl (fun h62 => ?_) (fun h62 => ?_)
              · refine J.iinc hG dX6_sure_95 (Nat.le_of_ble_eq_true rfl) rfl (fun _ => (by omega)) ?_
                refine J.goto hG 47 dX6_sure_98 rfl ?_
                first
                  | (have e : sst (xAg μ s v d) (xEY μ s y v d) c2 = c2 := by unfold sst; rw [if_neg (by omega)]
                     rw [e] at j3; exact ih (d + 1) _ (by omega) (by omega) j2 j3)
                  | (have e : sst (xAg μ s v d) (xEY μ s y v d) c2 = xEY μ s y v d := by unfold sst; rw [if_pos (by omega), if_pos (by omega)]
                     rw [e] at j3; exact J.drop 6 (ih (d + 1) _ (by omega) (by omega) (by omega) j3))
              · refine J.aload_n hG dX6_sure_65 rfl rfl ?_
                refine J.iload_n hG dX6_sure_66 rfl rfl ?_
                refine J.iload_n hG dX6_sure_67 rfl rfl ?_
                refine J.iload hG dX6_sure_68 rfl ?_
                refine J.iload hG dX6_sure_70 rfl ?_
                refine J.callV hG (X6_endInYear _ hB _ _ _ _ (by omega) (by omega) (by omega) (by omega)) ok_X6_endInYear ml_X6_218 rfl rfl rfl rfl (Nat.le_of_ble_eq_true rfl) ⟨Nat.le_of_ble_eq_true rfl, Nat.le_of_ble_eq_true rfl⟩ dX6_sure_72 rfl (fun r1 μ1 hp1 => ?_)
                obtain ⟨rfl, rfl⟩ := hp1
                refine J.istore hG dX6_sure_75 (Nat.le_of_ble_eq_true rfl) ?_
                refine J.iload_n hG dX6_sure_77 rfl rfl ?_
                refine J.bipush hG dX6_sure_78 (by decide) (by decide) ?_
                refine J.icmp_eq hG 92 dX6_sure_80 rfl (fun h80 => ?_) (fun h80 => ?_)
                · refine J.iload hG dX6_sure_92 rfl ?_
                  refine J.istore_n hG dX6_sure_94 rfl (Nat.le_of_ble_eq_true rfl) ?_
                  refine J.iinc hG dX6_sure_95 (Nat.le_of_ble_eq_true rfl) rfl (fun _ => (by omega)) ?_
                  refine J.goto hG 47 dX6_sure_98 rfl ?_
                  first
                    | (have e : sst (xAg μ s v d) (xEY μ s y v d) c2 = c2 := by unfold sst; rw [if_neg (by omega)]
                       rw [e] at j3; exact ih (d + 1) _ (by omega) (by omega) j2 j3)
                    | (have e : sst (xAg μ s v d) (xEY μ s y v d) c2 = xEY μ s y v d := by unfold sst; rw [if_pos (by omega), if_pos (by omega)]
                       rw [e] at j3; exact J.drop 6 (ih (d + 1) _ (by omega) (by omega) (by omega) j3))
                · refine J.iload_n hG dX6_sure_83 rfl rfl ?_
                  refine J.iload hG dX6_sure_84 rfl ?_
                  refine J.icmp_eq hG 92 dX6_sure_86 rfl (fun h86 => ?_) (fun h86 => ?_)
                  · refine J.iload hG dX6_sure_92 rfl ?_
                    refine J.istore_n hG dX6_sure_94 rfl (Nat.le_of_ble_eq_true rfl) ?_
                    refine J.iinc hG dX6_sure_95 (Nat.le_of_ble_eq_true rfl) rfl (fun _ => (by omega)) ?_
                    refine J.goto hG 47 dX6_sure_98 rfl ?_
                    first
                      | (have e : sst (xAg μ s v d) (xEY μ s y v d) c2 = c2 := by unfold sst; rw [if_neg (by omega)]
                         rw [e] at j3; exact ih (d + 1) _ (by omega) (by omega) j2 j3)
                      | (have e : sst (xAg μ s v d) (xEY μ s y v d) c2 = xEY μ s y v d := by unfold sst; rw [if_pos (by omega), if_pos (by omega)]
                         rw [e] at j3; exact J.drop 6 (ih (d + 1) _ (by omega) (by omega) (by omega) j3))
                  · refine J.bipush hG dX6_sure_89 (by decide) (by decide) ?_
                    refine J.iret hG dX6_sure_91 ?_
                    rw [hX]; dsimp only
                    have e : sst (xAg μ s v d) (xEY μ s y v d) c2 = -5 := by unfold sst; rw [if_pos (by omega), if_neg (by omega)]
                    rw [e, ff_5 (fun i => sst_5 _ _ (xEY_b μ s y v i).1), ff_5 (fun i => ff_5 (fun i2 => sst_5 _ _ (xEY_b μ s y i i2).1) 7 (-3))] at j3
                    exact ⟨by rw [if_pos (by omega), ← j3], rfl⟩
          refine J.iload hG dX6_sure_29 rfl ?_
          refine J.aload_n hG dX6_sure_31 rfl rfl ?_
          refine J.getR hG ciX6 rfl 1 1 rfl (Nat.le_of_ble_eq_true rfl) rfl fl_X6_19 dX6_sure_32 ?_
          refine J.getR hG ciX1 rfl 4 4 rfl (Nat.le_of_ble_eq_true rfl) rfl fl_X6_112 dX6_sure_35 ?_
          refine J.iload_n hG dX6_sure_38 rfl rfl ?_
          refine J.iald hG rfl (by omega) (by omega) dX6_sure_39 ?_
          refine J.icmp_gt hG 107 dX6_sure_40 rfl (fun h40 => absurd h40 (by omega)) (fun h40 => ?_)
          refine J.bipush hG dX6_sure_43 (by decide) (by decide) ?_
          refine J.istore hG dX6_sure_45 (Nat.le_of_ble_eq_true rfl) ?_
          exact lp2 7 (-3) c (Int.le_refl _) (by omega) i2 i3
      exact lp (μ 14 s + 1).toNat 0 _ (Int.le_refl _) (by omega) (Or.inl rfl) rfl
    · refine J.iconst hG dX6_sure_21 (by decide) ?_
      refine J.iret hG dX6_sure_22 ?_
      rw [hX]; dsimp only
      exact ⟨by congr 2; try ((repeat' split) <;> first | rfl | (exfalso; omega) | omega), rfl⟩


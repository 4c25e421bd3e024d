/-- the answer of orders -/
def ordA (sel : List (List Int)) (n i : Int) : Int := if i = -1 then sel.length else if (sel.length : Int) = 0 then -9 else if i < n then fOf (sel.headD []) i else -5
set_option maxRecDepth 100000 in
set_option maxHeartbeats 4000000 in
theorem X6_orders (μ : Mem) (hB : XB μ) (hP : XPn μ) (l i : Int) : CT TX md_X6_orders [aR 0, aI l, aI i] μ (fun rv μ1 => XF3 μ μ1 ∧ rv = some (aI (if (0 ≤ l ∧ l < μ 13 1) ∧ -1 ≤ i then ordA (xSel μ l (-9)) (μ 65 0) i else -1))) := by
  refine CT.of (Nat.le_of_ble_eq_true rfl) (by decide) rfl (Nat.le_of_ble_eq_true rfl) (fun X hG hX => ?_)
  have hG : G TX X RX6 cX6_orders 4 5 118 (some .int) := hG
  show J TX X 4 0 [some (aR 0), some (aI l), some (aI i), none] [] μ
  refine J.aload_n hG dX6_orders_0 rfl rfl ?_
  refine J.getR hG ciX6 rfl 1 1 rfl (Nat.le_of_ble_eq_true rfl) rfl fl_X6_19 dX6_orders_1 ?_
  refine J.iload_n hG dX6_orders_4 rfl rfl ?_
  refine J.callV hG (X1_hasLife _ _) ok_X1_hasLife ml_X6_118 rfl rfl rfl rfl (Nat.le_of_ble_eq_true rfl) ⟨Nat.le_of_ble_eq_true rfl, Nat.le_of_ble_eq_true rfl⟩ dX6_orders_5 rfl (fun r1 μ1 hp1 => ?_)
  obtain ⟨rfl, rfl⟩ := hp1
  refine J.ifb_eq hG 16 dX6_orders_8 rfl (fun h8 => ?_) (fun h8 => ?_)
  · refine J.iconst hG dX6_orders_16 (by decide) ?_
    refine J.iret hG dX6_orders_17 ?_
    rw [hX]; dsimp only
    exact ⟨fun _ _ => rfl, by rw [if_neg (by omega)]⟩
  · refine J.iload_n hG dX6_orders_11 rfl rfl ?_
    refine J.iconst hG dX6_orders_12 (by decide) ?_
    refine J.icmp_ge hG 18 dX6_orders_13 rfl (fun h13 => ?_) (fun h13 => ?_)
    · refine J.aload_n hG dX6_orders_18 rfl rfl ?_
      refine J.iload_n hG dX6_orders_19 rfl rfl ?_
      refine J.bipush hG dX6_orders_20 (by decide) (by decide) ?_
      refine J.callV hG (X6_lawfulOrders _ hB hP _ _ (by omega) (Or.inl rfl)) ok_X6_lawfulOrders ml_X6_194 rfl rfl rfl rfl (Nat.le_of_ble_eq_true rfl) ⟨Nat.le_of_ble_eq_true rfl, Nat.le_of_ble_eq_true rfl⟩ dX6_orders_22 rfl (fun r1 μ1 hp1 => ?_)
      obtain ⟨rfl, hF, hS⟩ := hp1
      have e65 : μ1 65 0 = μ 65 0 := by rw [hF 65 (by omega)]
      refine J.istore_n hG dX6_orders_25 rfl (Nat.le_of_ble_eq_true rfl) ?_
      refine J.iload_n hG dX6_orders_26 rfl rfl ?_
      refine J.iconst hG dX6_orders_27 (by decide) ?_
      refine J.icmp_ne hG 33 dX6_orders_28 rfl (fun h28 => ?_) (fun h28 => ?_)
      · refine J.iload_n hG dX6_orders_33 rfl rfl ?_
        refine J.if_ne hG 40 dX6_orders_34 rfl (fun h34 => ?_) (fun h34 => ?_)
        · have hP1 := hP.1
          refine J.iload_n hG dX6_orders_40 rfl rfl ?_
          refine J.aload_n hG dX6_orders_41 rfl rfl ?_
          refine J.getR hG ciX6 rfl 6 6 rfl (Nat.le_of_ble_eq_true rfl) rfl fl_X6_48 dX6_orders_42 ?_
          refine J.getI hG ciX0 rfl 0 0 rfl (Nat.le_of_ble_eq_true rfl) rfl fl_X6_102 dX6_orders_45 ?_
          refine J.icmp_ge hG 63 dX6_orders_48 rfl (fun h48 => ?_) (fun h48 => ?_)
          · refine J.bipush hG dX6_orders_63 (by decide) (by decide) ?_
            refine J.iret hG dX6_orders_65 ?_
            rw [hX]; dsimp only
            exact ⟨hF, by rw [if_pos (by omega), ordA, if_neg (by omega), if_neg (by omega), if_neg (by omega)]⟩
          · refine J.aload_n hG dX6_orders_51 rfl rfl ?_
            refine J.getR hG ciX6 rfl 6 6 rfl (Nat.le_of_ble_eq_true rfl) rfl fl_X6_48 dX6_orders_52 ?_
            refine J.getR hG ciX0 rfl 4 4 rfl (Nat.le_of_ble_eq_true rfl) rfl fl_X6_197 dX6_orders_55 ?_
            refine J.iload_n hG dX6_orders_58 rfl rfl ?_
            refine J.iald hG rfl (by omega) (by omega) dX6_orders_59 ?_
            refine J.goto hG 65 dX6_orders_60 rfl ?_
            refine J.iret hG dX6_orders_65 ?_
            rw [hX]; dsimp only
            refine ⟨hF, ?_⟩
            rw [if_pos (by omega), ordA, if_neg (by omega), if_neg (by omega), if_pos (by omega), hS (fun w => h34 (by rw [w]; rfl)) i (by omega) (by unfold pcn; rw [if_pos rfl]; omega)]
        · refine J.bipush hG dX6_orders_37 (by decide) (by decide) ?_
          refine J.iret hG dX6_orders_39 ?_
          rw [hX]; dsimp only
          exact ⟨hF, by rw [if_pos (by omega), ordA, if_neg (by omega), if_pos (by omega)]⟩
      · refine J.iload_n hG dX6_orders_31 rfl rfl ?_
        refine J.iret hG dX6_orders_32 ?_
        rw [hX]; dsimp only
        exact ⟨hF, by rw [if_pos (by omega), ordA, if_pos (by omega)]⟩
    · refine J.iconst hG dX6_orders_16 (by decide) ?_
      refine J.iret hG dX6_orders_17 ?_
      rw [hX]; dsimp only
      exact ⟨fun _ _ => rfl, by rw [if_neg (by omega)]⟩

/-- the answer of bars -/
def barA (cnt : Int → Nat) (n : Int) : Int := if 0 < (cnt (-9) : Int) then -9 else fs3 (fun k => if 0 < (cnt k : Int) then 3 else 0) n.toNat 0
theorem xSel_of {μ ν : Mem} (h : XF3 μ ν) (l wo : Int) : xSel ν l wo = xSel μ l wo := by
  unfold xSel
  rw [h 65 (by omega)]
  congr 1
  funext p
  rw [xSty_of h]

set_option maxRecDepth 100000 in
set_option maxHeartbeats 4000000 in
theorem X6_bars (μ : Mem) (hB : XB μ) (hP : XPn μ) (l : Int) : CT TX md_X6_bars [aR 0, aI l] μ (fun rv μ1 => XF3 μ μ1 ∧ rv = some (aI (if 0 ≤ l ∧ l < μ 13 1 then barA (fun k => (xSel μ l k).length) (μ 65 0) else -1))) := by
  refine CT.of (Nat.le_of_ble_eq_true rfl) (by decide) rfl (Nat.le_of_ble_eq_true rfl) (fun X hG hX => ?_)
  have hG : G TX X RX6 cX6_bars 3 5 118 (some .int) := hG
  show J TX X 3 0 [some (aR 0), some (aI l), none] [] μ
  refine J.aload_n hG dX6_bars_0 rfl rfl ?_
  refine J.getR hG ciX6 rfl 1 1 rfl (Nat.le_of_ble_eq_true rfl) rfl fl_X6_19 dX6_bars_1 ?_
  refine J.iload_n hG dX6_bars_4 rfl rfl ?_
  refine J.callV hG (X1_hasLife _ _) ok_X1_hasLife ml_X6_118 rfl rfl rfl rfl (Nat.le_of_ble_eq_true rfl) ⟨Nat.le_of_ble_eq_true rfl, Nat.le_of_ble_eq_true rfl⟩ dX6_bars_5 rfl (fun r1 μ1 hp1 => ?_)
  obtain ⟨rfl, rfl⟩ := hp1
  refine J.ifb_ne hG 13 dX6_bars_8 rfl (fun h8 => ?_) (fun h8 => ?_)
  · refine J.aload_n hG dX6_bars_13 rfl rfl ?_
    refine J.iload_n hG dX6_bars_14 rfl rfl ?_
    refine J.bipush hG dX6_bars_15 (by decide) (by decide) ?_
    refine J.callV hG (X6_lawfulOrders _ hB hP _ _ (by omega) (Or.inl rfl)) ok_X6_lawfulOrders ml_X6_194 rfl rfl rfl rfl (Nat.le_of_ble_eq_true rfl) ⟨Nat.le_of_ble_eq_true rfl, Nat.le_of_ble_eq_true rfl⟩ dX6_bars_17 rfl (fun r1 μ1 hp1 => ?_)
    obtain ⟨rfl, hF, hS⟩ := hp1
    refine J.if_le hG 26 dX6_bars_20 rfl (fun h20 => ?_) (fun h20 => ?_)
    · refine J.iconst hG dX6_bars_26 (by decide) ?_
      refine J.istore_n hG dX6_bars_27 rfl (Nat.le_of_ble_eq_true rfl) ?_
      have hl : 0 ≤ l ∧ l < μ 13 1 := h8
      have hP1 := hP.1
      have h20 : ¬ 0 < ((xSel μ l (-9)).length : Int) := by omega
      have lp : ∀ (k : Nat) (i : Int) (ν : Mem), 0 ≤ i → i + k = μ 65 0 → (XF3 μ ν) → (fs3 (fun k => if 0 < ((xSel μ l k).length : Int) then 3 else 0) k i = fs3 (fun k => if 0 < ((xSel μ l k).length : Int) then 3 else 0) (μ 65 0).toNat 0) → J TX X 3 28 [some (aR 0), some (aI l), some (aI i)] [] ν := by
        intro k
        induction k with
        | zero =>
          intro i ν i0 i1 hF i2
          have e65 : ν 65 0 = μ 65 0 := by rw [hF 65 (by omega)]
          have e131 : ν 13 1 = μ 13 1 := by rw [hF 13 (by omega)]
          simp only [fs3] at i2
          refine J.iload_n hG dX6_bars_28 rfl rfl ?_
          refine J.aload_n hG dX6_bars_29 rfl rfl ?_
          refine J.getR hG ciX6 rfl 6 6 rfl (Nat.le_of_ble_eq_true rfl) rfl fl_X6_48 dX6_bars_30 ?_
          refine J.getI hG ciX0 rfl 0 0 rfl (Nat.le_of_ble_eq_true rfl) rfl fl_X6_102 dX6_bars_33 ?_
          refine J.icmp_ge hG 56 dX6_bars_36 rfl (fun h36 => ?_) (fun h36 => absurd h36 (by omega))
          refine J.bipush hG dX6_bars_56 (by decide) (by decide) ?_
          refine J.iret hG dX6_bars_58 ?_
          rw [hX]; dsimp only
          exact ⟨hF, by rw [if_pos hl, barA, if_neg h20, ← i2]⟩
        | succ k ih =>
          intro i ν i0 i1 hF i2
          have e65 : ν 65 0 = μ 65 0 := by rw [hF 65 (by omega)]
          have e131 : ν 13 1 = μ 13 1 := by rw [hF 13 (by omega)]
          rw [fs3] at i2
          refine J.iload_n hG dX6_bars_28 rfl rfl ?_
          refine J.aload_n hG dX6_bars_29 rfl rfl ?_
          refine J.getR hG ciX6 rfl 6 6 rfl (Nat.le_of_ble_eq_true rfl) rfl fl_X6_48 dX6_bars_30 ?_
          refine J.getI hG ciX0 rfl 0 0 rfl (Nat.le_of_ble_eq_true rfl) rfl fl_X6_102 dX6_bars_33 ?_
          refine J.icmp_ge hG 56 dX6_bars_36 rfl (fun h36 => absurd h36 (by omega)) (fun h36 => ?_)
          refine J.aload_n hG dX6_bars_39 rfl rfl ?_
          refine J.iload_n hG dX6_bars_40 rfl rfl ?_
          refine J.iload_n hG dX6_bars_41 rfl rfl ?_
          refine J.callV hG (X6_lawfulOrders _ (XF3_XB hB hF) (XPn_of hF hP) _ _ (by omega) (by omega)) ok_X6_lawfulOrders ml_X6_194 rfl rfl rfl rfl (Nat.le_of_ble_eq_true rfl) ⟨Nat.le_of_ble_eq_true rfl, Nat.le_of_ble_eq_true rfl⟩ dX6_bars_42 rfl (fun r1 μ1 hp1 => ?_)
          obtain ⟨rfl, hF2, hS2⟩ := hp1
          rw [xSel_of hF]
          refine J.if_le hG 50 dX6_bars_45 rfl (fun h45 => ?_) (fun h45 => ?_)
          · refine J.iinc hG dX6_bars_50 (Nat.le_of_ble_eq_true rfl) rfl (fun _ => (by omega)) ?_
            refine J.goto hG 28 dX6_bars_53 rfl ?_
            have e : ¬ (if 0 < ((xSel μ l i).length : Int) then (3 : Int) else 0) = 3 := by rw [if_neg (by omega)]; omega
            rw [if_neg e] at i2
            exact ih (i + 1) _ (by omega) (by omega) (XF3_tr hF hF2) i2
          · refine J.iload_n hG dX6_bars_48 rfl rfl ?_
            refine J.iret hG dX6_bars_49 ?_
            rw [hX]; dsimp only
            have e : (if 0 < ((xSel μ l i).length : Int) then (3 : Int) else 0) = 3 := if_pos (by omega)
            rw [if_pos e] at i2
            exact ⟨XF3_tr hF hF2, by rw [if_pos hl, barA, if_neg h20, ← i2]⟩
      exact lp (μ 65 0).toNat 0 _ (Int.le_refl _) (by omega) hF rfl
    · refine J.bipush hG dX6_bars_23 (by decide) (by decide) ?_
      refine J.iret hG dX6_bars_25 ?_
      rw [hX]; dsimp only
      exact ⟨hF, by rw [if_pos (by omega), barA, if_pos (by omega)]⟩
  · refine J.iconst hG dX6_bars_11 (by decide) ?_
    refine J.iret hG dX6_bars_12 ?_
    rw [hX]; dsimp only
    exact ⟨fun _ _ => rfl, by rw [if_neg (by omega)]⟩

/-! the text: digits, where tokens begin, what they are -/
def dig (f : Int → Int) (n p : Int) : Int := if 0 ≤ p ∧ p < n ∧ 48 ≤ f p ∧ f p ≤ 57 then 1 else 0
def isSt (f : Int → Int) (n p : Int) : Int := if ¬ f p = 32 ∧ ¬ (dig f n p = 1 ∧ dig f n (p - 1) = 1) then 1 else 0
def numC (f : Int → Int) (n p : Int) : Int := if dig f n (p + 1) = 0 then f p - 48 else if f p - 48 = 0 ∨ dig f n (p + 2) = 1 then -1 else 10 * (f p - 48) + f (p + 1) - 48
def cdT (f : Int → Int) (n p : Int) : Int := if dig f n p = 1 then numC f n p else if f p = 115 ∨ f p = 108 ∨ f p = 100 ∨ f p = 112 ∨ f p = 59 then -f p else -1
def nsF (f : Int → Int) (n : Int) : Nat → Int → Int
  | 0, p => p
  | k + 1, p => if isSt f n p = 1 then p else nsF f n k (p + 1)
def nst (f : Int → Int) (n p : Int) : Int := nsF f n (n - p).toNat p
def Stk (f : Int → Int) (n : Int) : Nat → Int
  | 0 => nst f n 0
  | i + 1 => nst f n (Stk f n i + 1)
def XTx (μ : Mem) : Prop := (0 ≤ μ 1 0 ∧ μ 1 0 ≤ 200) ∧ ∀ i : Int, 0 ≤ i → i < μ 1 0 → 0 ≤ μ 10 i ∧ μ 10 i ≤ 255
theorem dig01 (f : Int → Int) (n p : Int) : dig f n p = 0 ∨ dig f n p = 1 := by unfold dig; split <;> simp
/-- the tokens that lie in the class's rows: as many, each where it begins -/
def Toks (μ : Mem) (m : Nat) : Prop := (∀ j : Nat, j < m → 0 ≤ Stk (μ 10) (μ 1 0) j ∧ Stk (μ 10) (μ 1 0) j < μ 1 0 ∧ μ 12 j = Stk (μ 10) (μ 1 0) j ∧ μ 11 j = cdT (μ 10) (μ 1 0) (Stk (μ 10) (μ 1 0) j)) ∧ Stk (μ 10) (μ 1 0) m = μ 1 0 ∧ μ 11 m = -2 ∧ μ 12 m = μ 1 0 ∧ (m : Int) ≤ μ 1 0
set_option maxRecDepth 100000 in
set_option maxHeartbeats 4000000 in
theorem X5_isDigit (μ : Mem) (hT : XTx μ) (p : Int) : CT TX md_X5_isDigit [aR 1, aI p] μ (fun rv μ1 => rv = some (aI (if dig (μ 10) (μ 1 0) p = 1 then 1 else 0)) ∧ μ = μ1) := by
  refine CT.of (Nat.le_of_ble_eq_true rfl) (by decide) rfl (Nat.le_of_ble_eq_true rfl) (fun X hG hX => ?_)
  have hG : G TX X RX5 cX5_isDigit 2 0 0 (some .boolean) := hG
  show J TX X 2 0 [some (aR 1), some (aI p)] [] μ
  have hT1 := hT.1
  refine J.iload_n hG dX5_isDigit_0 rfl rfl ?_
  refine J.if_lt hG 38 dX5_isDigit_1 rfl (fun h1 => ?_) (fun h1 => ?_)
  · refine J.iconst hG dX5_isDigit_38 (by decide) ?_
    refine J.zret hG (by first | exact Or.inl rfl | exact Or.inr rfl | assumption | (split <;> first | exact Or.inl rfl | exact Or.inr rfl)) dX5_isDigit_39 ?_
    rw [hX]; dsimp only
    exact ⟨by congr 2; unfold dig; first | (rw [if_pos (show 0 ≤ p ∧ p < μ 1 0 ∧ 48 ≤ μ 10 p ∧ μ 10 p ≤ 57 by omega)]; rfl) | (rw [if_neg (show ¬ (0 ≤ p ∧ p < μ 1 0 ∧ 48 ≤ μ 10 p ∧ μ 10 p ≤ 57) by omega)]; rfl), rfl⟩
  · refine J.iload_n hG dX5_isDigit_4 rfl rfl ?_
    refine J.aload_n hG dX5_isDigit_5 rfl rfl ?_
    refine J.getI hG ciX5 rfl 0 0 rfl (Nat.le_of_ble_eq_true rfl) rfl fl_X5_9 dX5_isDigit_6 ?_
    refine J.icmp_ge hG 38 dX5_isDigit_9 rfl (fun h9 => ?_) (fun h9 => ?_)
    · refine J.iconst hG dX5_isDigit_38 (by decide) ?_
      refine J.zret hG (by first | exact Or.inl rfl | exact Or.inr rfl | assumption | (split <;> first | exact Or.inl rfl | exact Or.inr rfl)) dX5_isDigit_39 ?_
      rw [hX]; dsimp only
      exact ⟨by congr 2; unfold dig; first | (rw [if_pos (show 0 ≤ p ∧ p < μ 1 0 ∧ 48 ≤ μ 10 p ∧ μ 10 p ≤ 57 by omega)]; rfl) | (rw [if_neg (show ¬ (0 ≤ p ∧ p < μ 1 0 ∧ 48 ≤ μ 10 p ∧ μ 10 p ≤ 57) by omega)]; rfl), rfl⟩
    · refine J.aload_n hG dX5_isDigit_12 rfl rfl ?_
      refine J.getR hG ciX5 rfl 3 3 rfl (Nat.le_of_ble_eq_true rfl) rfl fl_X5_29 dX5_isDigit_13 ?_
      refine J.iload_n hG dX5_isDigit_16 rfl rfl ?_
      refine J.iald hG rfl (by omega) (by omega) dX5_isDigit_17 ?_
      refine J.bipush hG dX5_isDigit_18 (by decide) (by decide) ?_
      refine J.icmp_lt hG 38 dX5_isDigit_20 rfl (fun h20 => ?_) (fun h20 => ?_)
      · refine J.iconst hG dX5_isDigit_38 (by decide) ?_
        refine J.zret hG (by first | exact Or.inl rfl | exact Or.inr rfl | assumption | (split <;> first | exact Or.inl rfl | exact Or.inr rfl)) dX5_isDigit_39 ?_
        rw [hX]; dsimp only
        exact ⟨by congr 2; unfold dig; first | (rw [if_pos (show 0 ≤ p ∧ p < μ 1 0 ∧ 48 ≤ μ 10 p ∧ μ 10 p ≤ 57 by omega)]; rfl) | (rw [if_neg (show ¬ (0 ≤ p ∧ p < μ 1 0 ∧ 48 ≤ μ 10 p ∧ μ 10 p ≤ 57) by omega)]; rfl), rfl⟩
      · refine J.aload_n hG dX5_isDigit_23 rfl rfl ?_
        refine J.getR hG ciX5 rfl 3 3 rfl (Nat.le_of_ble_eq_true rfl) rfl fl_X5_29 dX5_isDigit_24 ?_
        refine J.iload_n hG dX5_isDigit_27 rfl rfl ?_
        refine J.iald hG rfl (by omega) (by omega) dX5_isDigit_28 ?_
        refine J.bipush hG dX5_isDigit_29 (by decide) (by decide) ?_
        refine J.icmp_gt hG 38 dX5_isDigit_31 rfl (fun h31 => ?_) (fun h31 => ?_)
        · refine J.iconst hG dX5_isDigit_38 (by decide) ?_
          refine J.zret hG (by first | exact Or.inl rfl | exact Or.inr rfl | assumption | (split <;> first | exact Or.inl rfl | exact Or.inr rfl)) dX5_isDigit_39 ?_
          rw [hX]; dsimp only
          exact ⟨by congr 2; unfold dig; first | (rw [if_pos (show 0 ≤ p ∧ p < μ 1 0 ∧ 48 ≤ μ 10 p ∧ μ 10 p ≤ 57 by omega)]; rfl) | (rw [if_neg (show ¬ (0 ≤ p ∧ p < μ 1 0 ∧ 48 ≤ μ 10 p ∧ μ 10 p ≤ 57) by omega)]; rfl), rfl⟩
        · refine J.iconst hG dX5_isDigit_34 (by decide) ?_
          refine J.goto hG 39 dX5_isDigit_35 rfl ?_
          refine J.zret hG (by first | exact Or.inl rfl | exact Or.inr rfl | assumption | (split <;> first | exact Or.inl rfl | exact Or.inr rfl)) dX5_isDigit_39 ?_
          rw [hX]; dsimp only
          exact ⟨by congr 2; unfold dig; first | (rw [if_pos (show 0 ≤ p ∧ p < μ 1 0 ∧ 48 ≤ μ 10 p ∧ μ 10 p ≤ 57 by omega)]; rfl) | (rw [if_neg (show ¬ (0 ≤ p ∧ p < μ 1 0 ∧ 48 ≤ μ 10 p ∧ μ 10 p ≤ 57) by omega)]; rfl), rfl⟩

set_option maxRecDepth 100000 in
set_option maxHeartbeats 4000000 in
theorem X5_startsToken (μ : Mem) (hT : XTx μ) (p : Int) (hp : 0 ≤ p ∧ p < μ 1 0) : CT TX md_X5_startsToken [aR 1, aI p] μ (fun rv μ1 => rv = some (aI (if isSt (μ 10) (μ 1 0) p = 1 then 1 else 0)) ∧ μ = μ1) := by
  refine CT.of (Nat.le_of_ble_eq_true rfl) (by decide) rfl (Nat.le_of_ble_eq_true rfl) (fun X hG hX => ?_)
  have hG : G TX X RX5 cX5_startsToken 3 1 21 (some .boolean) := hG
  show J TX X 3 0 [some (aR 1), some (aI p), none] [] μ
  have hT1 := hT.1
  have hTp := hT.2 p hp.1 hp.2
  have d0 := dig01 (μ 10) (μ 1 0) p
  have d1 := dig01 (μ 10) (μ 1 0) (p + 1)
  have d2 := dig01 (μ 10) (μ 1 0) (p + 2)
  have dm := dig01 (μ 10) (μ 1 0) (p - 1)
  refine J.aload_n hG dX5_startsToken_0 rfl rfl ?_
  refine J.iload_n hG dX5_startsToken_1 rfl rfl ?_
  refine J.callV hG (X5_isDigit _ hT _) ok_X5_isDigit ml_X5_69 rfl rfl rfl rfl (Nat.le_of_ble_eq_true rfl) ⟨Nat.le_of_ble_eq_true rfl, Nat.le_of_ble_eq_true rfl⟩ dX5_startsToken_2 rfl (fun r1 μ1 hp1 => ?_)
  obtain ⟨rfl, rfl⟩ := hp1
  refine J.ifb_eq hG 22 dX5_startsToken_5 rfl (fun h5 => ?_) (fun h5 => ?_)
  · refine J.iconst hG dX5_startsToken_22 (by decide) ?_
    refine J.istore_n hG dX5_startsToken_23 rfl (Nat.le_of_ble_eq_true rfl) ?_
    refine J.aload_n hG dX5_startsToken_24 rfl rfl ?_
    refine J.getR hG ciX5 rfl 3 3 rfl (Nat.le_of_ble_eq_true rfl) rfl fl_X5_29 dX5_startsToken_25 ?_
    refine J.iload_n hG dX5_startsToken_28 rfl rfl ?_
    refine J.iald hG rfl (by omega) (by omega) dX5_startsToken_29 ?_
    refine J.bipush hG dX5_startsToken_30 (by decide) (by decide) ?_
    refine J.icmp_eq hG 43 dX5_startsToken_32 rfl (fun h32 => ?_) (fun h32 => ?_)
    · refine J.iconst hG dX5_startsToken_43 (by decide) ?_
      refine J.zret hG (by first | exact Or.inl rfl | exact Or.inr rfl | assumption | (split <;> first | exact Or.inl rfl | exact Or.inr rfl)) dX5_startsToken_44 ?_
      rw [hX]; dsimp only
      exact ⟨by congr 2; unfold isSt; first | (rw [if_pos (show ¬ μ 10 p = 32 ∧ ¬ (dig (μ 10) (μ 1 0) p = 1 ∧ dig (μ 10) (μ 1 0) (p - 1) = 1) by omega)]; rfl) | (rw [if_neg (show ¬ (¬ μ 10 p = 32 ∧ ¬ (dig (μ 10) (μ 1 0) p = 1 ∧ dig (μ 10) (μ 1 0) (p - 1) = 1)) by omega)]; rfl), rfl⟩
    · refine J.iload_n hG dX5_startsToken_35 rfl rfl ?_
      refine J.if_ne hG 43 dX5_startsToken_36 rfl (fun h36 => ?_) (fun h36 => ?_)
      · refine J.iconst hG dX5_startsToken_43 (by decide) ?_
        refine J.zret hG (by first | exact Or.inl rfl | exact Or.inr rfl | assumption | (split <;> first | exact Or.inl rfl | exact Or.inr rfl)) dX5_startsToken_44 ?_
        rw [hX]; dsimp only
        exact ⟨by congr 2; unfold isSt; first | (rw [if_pos (show ¬ μ 10 p = 32 ∧ ¬ (dig (μ 10) (μ 1 0) p = 1 ∧ dig (μ 10) (μ 1 0) (p - 1) = 1) by omega)]; rfl) | (rw [if_neg (show ¬ (¬ μ 10 p = 32 ∧ ¬ (dig (μ 10) (μ 1 0) p = 1 ∧ dig (μ 10) (μ 1 0) (p - 1) = 1)) by omega)]; rfl), rfl⟩
      · refine J.iconst hG dX5_startsToken_39 (by decide) ?_
        refine J.goto hG 44 dX5_startsToken_40 rfl ?_
        refine J.zret hG (by first | exact Or.inl rfl | exact Or.inr rfl | assumption | (split <;> first | exact Or.inl rfl | exact Or.inr rfl)) dX5_startsToken_44 ?_
        rw [hX]; dsimp only
        exact ⟨by congr 2; unfold isSt; first | (rw [if_pos (show ¬ μ 10 p = 32 ∧ ¬ (dig (μ 10) (μ 1 0) p = 1 ∧ dig (μ 10) (μ 1 0) (p - 1) = 1) by omega)]; rfl) | (rw [if_neg (show ¬ (¬ μ 10 p = 32 ∧ ¬ (dig (μ 10) (μ 1 0) p = 1 ∧ dig (μ 10) (μ 1 0) (p - 1) = 1)) by omega)]; rfl), rfl⟩
  · refine J.aload_n hG dX5_startsToken_8 rfl rfl ?_
    refine J.iload_n hG dX5_startsToken_9 rfl rfl ?_
    refine J.iconst hG dX5_startsToken_10 (by decide) ?_
    refine J.isub hG dX5_startsToken_11 (fun _ _ => (by omega)) ?_
    refine J.callV hG (X5_isDigit _ hT _) ok_X5_isDigit ml_X5_69 rfl rfl rfl rfl (Nat.le_of_ble_eq_true rfl) ⟨Nat.le_of_ble_eq_true rfl, Nat.le_of_ble_eq_true rfl⟩ dX5_startsToken_12 rfl (fun r1 μ1 hp1 => ?_)
    obtain ⟨rfl, rfl⟩ := hp1
    refine J.ifb_eq hG 22 dX5_startsToken_15 rfl (fun h15 => ?_) (fun h15 => ?_)
    · refine J.iconst hG dX5_startsToken_22 (by decide) ?_
      refine J.istore_n hG dX5_startsToken_23 rfl (Nat.le_of_ble_eq_true rfl) ?_
      refine J.aload_n hG dX5_startsToken_24 rfl rfl ?_
      refine J.getR hG ciX5 rfl 3 3 rfl (Nat.le_of_ble_eq_true rfl) rfl fl_X5_29 dX5_startsToken_25 ?_
      refine J.iload_n hG dX5_startsToken_28 rfl rfl ?_
      refine J.iald hG rfl (by omega) (by omega) dX5_startsToken_29 ?_
      refine J.bipush hG dX5_startsToken_30 (by decide) (by decide) ?_
      refine J.icmp_eq hG 43 dX5_startsToken_32 rfl (fun h32 => ?_) (fun h32 => ?_)
      · refine J.iconst hG dX5_startsToken_43 (by decide) ?_
        refine J.zret hG (by first | exact Or.inl rfl | exact Or.inr rfl | assumption | (split <;> first | exact Or.inl rfl | exact Or.inr rfl)) dX5_startsToken_44 ?_
        rw [hX]; dsimp only
        exact ⟨by congr 2; unfold isSt; first | (rw [if_pos (show ¬ μ 10 p = 32 ∧ ¬ (dig (μ 10) (μ 1 0) p = 1 ∧ dig (μ 10) (μ 1 0) (p - 1) = 1) by omega)]; rfl) | (rw [if_neg (show ¬ (¬ μ 10 p = 32 ∧ ¬ (dig (μ 10) (μ 1 0) p = 1 ∧ dig (μ 10) (μ 1 0) (p - 1) = 1)) by omega)]; rfl), rfl⟩
      · refine J.iload_n hG dX5_startsToken_35 rfl rfl ?_
        refine J.if_ne hG 43 dX5_startsToken_36 rfl (fun h36 => ?_) (fun h36 => ?_)
        · refine J.iconst hG dX5_startsToken_43 (by decide) ?_
          refine J.zret hG (by first | exact Or.inl rfl | exact Or.inr rfl | assumption | (split <;> first | exact Or.inl rfl | exact Or.inr rfl)) dX5_startsToken_44 ?_
          rw [hX]; dsimp only
          exact ⟨by congr 2; unfold isSt; first | (rw [if_pos (show ¬ μ 10 p = 32 ∧ ¬ (dig (μ 10) (μ 1 0) p = 1 ∧ dig (μ 10) (μ 1 0) (p - 1) = 1) by omega)]; rfl) | (rw [if_neg (show ¬ (¬ μ 10 p = 32 ∧ ¬ (dig (μ 10) (μ 1 0) p = 1 ∧ dig (μ 10) (μ 1 0) (p - 1) = 1)) by omega)]; rfl), rfl⟩
        · refine J.iconst hG dX5_startsToken_39 (by decide) ?_
          refine J.goto hG 44 dX5_startsToken_40 rfl ?_
          refine J.zret hG (by first | exact Or.inl rfl | exact Or.inr rfl | assumption | (split <;> first | exact Or.inl rfl | exact Or.inr rfl)) dX5_startsToken_44 ?_
          rw [hX]; dsimp only
          exact ⟨by congr 2; unfold isSt; first | (rw [if_pos (show ¬ μ 10 p = 32 ∧ ¬ (dig (μ 10) (μ 1 0) p = 1 ∧ dig (μ 10) (μ 1 0) (p - 1) = 1) by omega)]; rfl) | (rw [if_neg (show ¬ (¬ μ 10 p = 32 ∧ ¬ (dig (μ 10) (μ 1 0) p = 1 ∧ dig (μ 10) (μ 1 0) (p - 1) = 1)) by omega)]; rfl), rfl⟩
    · refine J.iconst hG dX5_startsToken_18 (by decide) ?_
      refine J.goto hG 23 dX5_startsToken_19 rfl ?_
      refine J.istore_n hG dX5_startsToken_23 rfl (Nat.le_of_ble_eq_true rfl) ?_
      refine J.aload_n hG dX5_startsToken_24 rfl rfl ?_
      refine J.getR hG ciX5 rfl 3 3 rfl (Nat.le_of_ble_eq_true rfl) rfl fl_X5_29 dX5_startsToken_25 ?_
      refine J.iload_n hG dX5_startsToken_28 rfl rfl ?_
      refine J.iald hG rfl (by omega) (by omega) dX5_startsToken_29 ?_
      refine J.bipush hG dX5_startsToken_30 (by decide) (by decide) ?_
      refine J.icmp_eq hG 43 dX5_startsToken_32 rfl (fun h32 => ?_) (fun h32 => ?_)
      · refine J.iconst hG dX5_startsToken_43 (by decide) ?_
        refine J.zret hG (by first | exact Or.inl rfl | exact Or.inr rfl | assumption | (split <;> first | exact Or.inl rfl | exact Or.inr rfl)) dX5_startsToken_44 ?_
        rw [hX]; dsimp only
        exact ⟨by congr 2; unfold isSt; first | (rw [if_pos (show ¬ μ 10 p = 32 ∧ ¬ (dig (μ 10) (μ 1 0) p = 1 ∧ dig (μ 10) (μ 1 0) (p - 1) = 1) by omega)]; rfl) | (rw [if_neg (show ¬ (¬ μ 10 p = 32 ∧ ¬ (dig (μ 10) (μ 1 0) p = 1 ∧ dig (μ 10) (μ 1 0) (p - 1) = 1)) by omega)]; rfl), rfl⟩
      · refine J.iload_n hG dX5_startsToken_35 rfl rfl ?_
        refine J.if_ne hG 43 dX5_startsToken_36 rfl (fun h36 => ?_) (fun h36 => ?_)
        · refine J.iconst hG dX5_startsToken_43 (by decide) ?_
          refine J.zret hG (by first | exact Or.inl rfl | exact Or.inr rfl | assumption | (split <;> first | exact Or.inl rfl | exact Or.inr rfl)) dX5_startsToken_44 ?_
          rw [hX]; dsimp only
          exact ⟨by congr 2; unfold isSt; first | (rw [if_pos (show ¬ μ 10 p = 32 ∧ ¬ (dig (μ 10) (μ 1 0) p = 1 ∧ dig (μ 10) (μ 1 0) (p - 1) = 1) by omega)]; rfl) | (rw [if_neg (show ¬ (¬ μ 10 p = 32 ∧ ¬ (dig (μ 10) (μ 1 0) p = 1 ∧ dig (μ 10) (μ 1 0) (p - 1) = 1)) by omega)]; rfl), rfl⟩
        · refine J.iconst hG dX5_startsToken_39 (by decide) ?_
          refine J.goto hG 44 dX5_startsToken_40 rfl ?_
          refine J.zret hG (by first | exact Or.inl rfl | exact Or.inr rfl | assumption | (split <;> first | exact Or.inl rfl | exact Or.inr rfl)) dX5_startsToken_44 ?_
          rw [hX]; dsimp only
          exact ⟨by congr 2; unfold isSt; first | (rw [if_pos (show ¬ μ 10 p = 32 ∧ ¬ (dig (μ 10) (μ 1 0) p = 1 ∧ dig (μ 10) (μ 1 0) (p - 1) = 1) by omega)]; rfl) | (rw [if_neg (show ¬ (¬ μ 10 p = 32 ∧ ¬ (dig (μ 10) (μ 1 0) p = 1 ∧ dig (μ 10) (μ 1 0) (p - 1) = 1)) by omega)]; rfl), rfl⟩

set_option maxRecDepth 100000 in
set_option maxHeartbeats 4000000 in
theorem X5_numberFrom (μ : Mem) (hT : XTx μ) (p : Int) (hp : 0 ≤ p ∧ p < μ 1 0) (hd : dig (μ 10) (μ 1 0) p = 1) : CT TX md_X5_numberFrom [aR 1, aI p] μ (fun rv μ1 => rv = some (aI (numC (μ 10) (μ 1 0) p)) ∧ μ = μ1) := by
  refine CT.of (Nat.le_of_ble_eq_true rfl) (by decide) rfl (Nat.le_of_ble_eq_true rfl) (fun X hG hX => ?_)
  have hG : G TX X RX5 cX5_numberFrom 3 1 21 (some .int) := hG
  show J TX X 3 0 [some (aR 1), some (aI p), none] [] μ
  have hT1 := hT.1
  have hTp := hT.2 p hp.1 hp.2
  have d0 := dig01 (μ 10) (μ 1 0) p
  have d1 := dig01 (μ 10) (μ 1 0) (p + 1)
  have d2 := dig01 (μ 10) (μ 1 0) (p + 2)
  have dm := dig01 (μ 10) (μ 1 0) (p - 1)
  have hdd : 48 ≤ μ 10 p ∧ μ 10 p ≤ 57 := by unfold dig at hd; split at hd; omega; omega
  refine J.aload_n hG dX5_numberFrom_0 rfl rfl ?_
  refine J.getR hG ciX5 rfl 3 3 rfl (Nat.le_of_ble_eq_true rfl) rfl fl_X5_29 dX5_numberFrom_1 ?_
  refine J.iload_n hG dX5_numberFrom_4 rfl rfl ?_
  refine J.iald hG rfl (by omega) (by omega) dX5_numberFrom_5 ?_
  refine J.bipush hG dX5_numberFrom_6 (by decide) (by decide) ?_
  refine J.isub hG dX5_numberFrom_8 (fun _ _ => (by omega)) ?_
  refine J.istore_n hG dX5_numberFrom_9 rfl (Nat.le_of_ble_eq_true rfl) ?_
  refine J.aload_n hG dX5_numberFrom_10 rfl rfl ?_
  refine J.iload_n hG dX5_numberFrom_11 rfl rfl ?_
  refine J.iconst hG dX5_numberFrom_12 (by decide) ?_
  refine J.iadd hG dX5_numberFrom_13 (fun _ _ => (by omega)) ?_
  refine J.callV hG (X5_isDigit _ hT _) ok_X5_isDigit ml_X5_69 rfl rfl rfl rfl (Nat.le_of_ble_eq_true rfl) ⟨Nat.le_of_ble_eq_true rfl, Nat.le_of_ble_eq_true rfl⟩ dX5_numberFrom_14 rfl (fun r1 μ1 hp1 => ?_)
  obtain ⟨rfl, rfl⟩ := hp1
  refine J.ifb_ne hG 22 dX5_numberFrom_17 rfl (fun h17 => ?_) (fun h17 => ?_)
  · refine J.iload_n hG dX5_numberFrom_22 rfl rfl ?_
    refine J.if_eq hG 36 dX5_numberFrom_23 rfl (fun h23 => ?_) (fun h23 => ?_)
    · refine J.iconst hG dX5_numberFrom_36 (by decide) ?_
      refine J.iret hG dX5_numberFrom_37 ?_
      rw [hX]; dsimp only
      exact ⟨by congr 2; unfold numC; first | (rw [if_pos (by omega)]; done) | (rw [if_neg (by omega), if_pos (by omega)]; done) | (rw [if_neg (by omega), if_neg (by omega)]; done), rfl⟩
    · refine J.aload_n hG dX5_numberFrom_26 rfl rfl ?_
      refine J.iload_n hG dX5_numberFrom_27 rfl rfl ?_
      refine J.iconst hG dX5_numberFrom_28 (by decide) ?_
      refine J.iadd hG dX5_numberFrom_29 (fun _ _ => (by omega)) ?_
      refine J.callV hG (X5_isDigit _ hT _) ok_X5_isDigit ml_X5_69 rfl rfl rfl rfl (Nat.le_of_ble_eq_true rfl) ⟨Nat.le_of_ble_eq_true rfl, Nat.le_of_ble_eq_true rfl⟩ dX5_numberFrom_30 rfl (fun r1 μ1 hp1 => ?_)
      obtain ⟨rfl, rfl⟩ := hp1
      refine J.ifb_eq hG 38 dX5_numberFrom_33 rfl (fun h33 => ?_) (fun h33 => ?_)
      · have hd1 : 48 ≤ μ 10 (p + 1) ∧ μ 10 (p + 1) ≤ 57 ∧ p + 1 < μ 1 0 := by unfold dig at h17; split at h17 <;> omega
        refine J.bipush hG dX5_numberFrom_38 (by decide) (by decide) ?_
        refine J.iload_n hG dX5_numberFrom_40 rfl rfl ?_
        refine J.imul hG dX5_numberFrom_41 (fun _ _ => (by omega)) ?_
        refine J.aload_n hG dX5_numberFrom_42 rfl rfl ?_
        refine J.getR hG ciX5 rfl 3 3 rfl (Nat.le_of_ble_eq_true rfl) rfl fl_X5_29 dX5_numberFrom_43 ?_
        refine J.iload_n hG dX5_numberFrom_46 rfl rfl ?_
        refine J.iconst hG dX5_numberFrom_47 (by decide) ?_
        refine J.iadd hG dX5_numberFrom_48 (fun _ _ => (by omega)) ?_
        refine J.iald hG rfl (by omega) (by omega) dX5_numberFrom_49 ?_
        refine J.iadd hG dX5_numberFrom_50 (fun _ _ => (by omega)) ?_
        refine J.bipush hG dX5_numberFrom_51 (by decide) (by decide) ?_
        refine J.isub hG dX5_numberFrom_53 (fun _ _ => (by omega)) ?_
        refine J.iret hG dX5_numberFrom_54 ?_
        rw [hX]; dsimp only
        exact ⟨by congr 2; unfold numC; first | (rw [if_pos (by omega)]; done) | (rw [if_neg (by omega), if_pos (by omega)]; done) | (rw [if_neg (by omega), if_neg (by omega)]; done), rfl⟩
      · refine J.iconst hG dX5_numberFrom_36 (by decide) ?_
        refine J.iret hG dX5_numberFrom_37 ?_
        rw [hX]; dsimp only
        exact ⟨by congr 2; unfold numC; first | (rw [if_pos (by omega)]; done) | (rw [if_neg (by omega), if_pos (by omega)]; done) | (rw [if_neg (by omega), if_neg (by omega)]; done), rfl⟩
  · refine J.iload_n hG dX5_numberFrom_20 rfl rfl ?_
    refine J.iret hG dX5_numberFrom_21 ?_
    rw [hX]; dsimp only
    exact ⟨by congr 2; unfold numC; first | (rw [if_pos (by omega)]; done) | (rw [if_neg (by omega), if_pos (by omega)]; done) | (rw [if_neg (by omega), if_neg (by omega)]; done), rfl⟩

set_option maxRecDepth 100000 in
set_option maxHeartbeats 4000000 in
theorem X5_tokenFrom (μ : Mem) (hT : XTx μ) (p : Int) (hp : 0 ≤ p ∧ p < μ 1 0) : CT TX md_X5_tokenFrom [aR 1, aI p] μ (fun rv μ1 => rv = some (aI (cdT (μ 10) (μ 1 0) p)) ∧ μ = μ1) := by
  refine CT.of (Nat.le_of_ble_eq_true rfl) (by decide) rfl (Nat.le_of_ble_eq_true rfl) (fun X hG hX => ?_)
  have hG : G TX X RX5 cX5_tokenFrom 4 2 43 (some .int) := hG
  show J TX X 4 0 [some (aR 1), some (aI p), none, none] [] μ
  have hT1 := hT.1
  have hTp := hT.2 p hp.1 hp.2
  have d0 := dig01 (μ 10) (μ 1 0) p
  have d1 := dig01 (μ 10) (μ 1 0) (p + 1)
  have d2 := dig01 (μ 10) (μ 1 0) (p + 2)
  have dm := dig01 (μ 10) (μ 1 0) (p - 1)
  refine J.aload_n hG dX5_tokenFrom_0 rfl rfl ?_
  refine J.iload_n hG dX5_tokenFrom_1 rfl rfl ?_
  refine J.callV hG (X5_isDigit _ hT _) ok_X5_isDigit ml_X5_69 rfl rfl rfl rfl (Nat.le_of_ble_eq_true rfl) ⟨Nat.le_of_ble_eq_true rfl, Nat.le_of_ble_eq_true rfl⟩ dX5_tokenFrom_2 rfl (fun r1 μ1 hp1 => ?_)
  obtain ⟨rfl, rfl⟩ := hp1
  refine J.ifb_eq hG 14 dX5_tokenFrom_5 rfl (fun h5 => ?_) (fun h5 => ?_)
  · refine J.aload_n hG dX5_tokenFrom_14 rfl rfl ?_
    refine J.getR hG ciX5 rfl 3 3 rfl (Nat.le_of_ble_eq_true rfl) rfl fl_X5_29 dX5_tokenFrom_15 ?_
    refine J.iload_n hG dX5_tokenFrom_18 rfl rfl ?_
    refine J.iald hG rfl (by omega) (by omega) dX5_tokenFrom_19 ?_
    refine J.istore_n hG dX5_tokenFrom_20 rfl (Nat.le_of_ble_eq_true rfl) ?_
    refine J.iload_n hG dX5_tokenFrom_21 rfl rfl ?_
    refine J.bipush hG dX5_tokenFrom_22 (by decide) (by decide) ?_
    refine J.icmp_eq hG 51 dX5_tokenFrom_24 rfl (fun h24 => ?_) (fun h24 => ?_)
    · refine J.iconst hG dX5_tokenFrom_51 (by decide) ?_
      refine J.goto hG 56 dX5_tokenFrom_52 rfl ?_
      refine J.istore_n hG dX5_tokenFrom_56 rfl (Nat.le_of_ble_eq_true rfl) ?_
      refine J.iload_n hG dX5_tokenFrom_57 rfl rfl ?_
      refine J.if_eq hG 66 dX5_tokenFrom_58 rfl (fun h58 => ?_) (fun h58 => ?_)
      · refine J.iconst hG dX5_tokenFrom_66 (by decide) ?_
        refine J.iret hG dX5_tokenFrom_67 ?_
        rw [hX]; dsimp only
        exact ⟨by congr 2; unfold cdT; rw [if_neg h5]; first | (rw [if_pos (by omega)]; done) | (rw [if_neg (by omega)]; done), rfl⟩
      · refine J.iload_n hG dX5_tokenFrom_61 rfl rfl ?_
        refine J.ineg hG dX5_tokenFrom_62 (fun _ => (by omega)) ?_
        refine J.goto hG 67 dX5_tokenFrom_63 rfl ?_
        refine J.iret hG dX5_tokenFrom_67 ?_
        rw [hX]; dsimp only
        exact ⟨by congr 2; unfold cdT; rw [if_neg h5]; first | (rw [if_pos (by omega)]; done) | (rw [if_neg (by omega)]; done), rfl⟩
    · refine J.iload_n hG dX5_tokenFrom_27 rfl rfl ?_
      refine J.bipush hG dX5_tokenFrom_28 (by decide) (by decide) ?_
      refine J.icmp_eq hG 51 dX5_tokenFrom_30 rfl (fun h30 => ?_) (fun h30 => ?_)
      · refine J.iconst hG dX5_tokenFrom_51 (by decide) ?_
        refine J.goto hG 56 dX5_tokenFrom_52 rfl ?_
        refine J.istore_n hG dX5_tokenFrom_56 rfl (Nat.le_of_ble_eq_true rfl) ?_
        refine J.iload_n hG dX5_tokenFrom_57 rfl rfl ?_
        refine J.if_eq hG 66 dX5_tokenFrom_58 rfl (fun h58 => ?_) (fun h58 => ?_)
        · refine J.iconst hG dX5_tokenFrom_66 (by decide) ?_
          refine J.iret hG dX5_tokenFrom_67 ?_
          rw [hX]; dsimp only
          exact ⟨by congr 2; unfold cdT; rw [if_neg h5]; first | (rw [if_pos (by omega)]; done) | (rw [if_neg (by omega)]; done), rfl⟩
        · refine J.iload_n hG dX5_tokenFrom_61 rfl rfl ?_
          refine J.ineg hG dX5_tokenFrom_62 (fun _ => (by omega)) ?_
          refine J.goto hG 67 dX5_tokenFrom_63 rfl ?_
          refine J.iret hG dX5_tokenFrom_67 ?_
          rw [hX]; dsimp only
          exact ⟨by congr 2; unfold cdT; rw [if_neg h5]; first | (rw [if_pos (by omega)]; done) | (rw [if_neg (by omega)]; done), rfl⟩
      · refine J.iload_n hG dX5_tokenFrom_33 rfl rfl ?_
        refine J.bipush hG dX5_tokenFrom_34 (by decide) (by decide) ?_
        refine J.icmp_eq hG 51 dX5_tokenFrom_36 rfl (fun h36 => ?_) (fun h36 => ?_)
        · refine J.iconst hG dX5_tokenFrom_51 (by decide) ?_
          refine J.goto hG 56 dX5_tokenFrom_52 rfl ?_
          refine J.istore_n hG dX5_tokenFrom_56 rfl (Nat.le_of_ble_eq_true rfl) ?_
          refine J.iload_n hG dX5_tokenFrom_57 rfl rfl ?_
          refine J.if_eq hG 66 dX5_tokenFrom_58 rfl (fun h58 => ?_) (fun h58 => ?_)
          · refine J.iconst hG dX5_tokenFrom_66 (by decide) ?_
            refine J.iret hG dX5_tokenFrom_67 ?_
            rw [hX]; dsimp only
            exact ⟨by congr 2; unfold cdT; rw [if_neg h5]; first | (rw [if_pos (by omega)]; done) | (rw [if_neg (by omega)]; done), rfl⟩
          · refine J.iload_n hG dX5_tokenFrom_61 rfl rfl ?_
            refine J.ineg hG dX5_tokenFrom_62 (fun _ => (by omega)) ?_
            refine J.goto hG 67 dX5_tokenFrom_63 rfl ?_
            refine J.iret hG dX5_tokenFrom_67 ?_
            rw [hX]; dsimp only
            exact ⟨by congr 2; unfold cdT; rw [if_neg h5]; first | (rw [if_pos (by omega)]; done) | (rw [if_neg (by omega)]; done), rfl⟩
        · refine J.iload_n hG dX5_tokenFrom_39 rfl rfl ?_
          refine J.bipush hG dX5_tokenFrom_40 (by decide) (by decide) ?_
          refine J.icmp_eq hG 51 dX5_tokenFrom_42 rfl (fun h42 => ?_) (fun h42 => ?_)
          · refine J.iconst hG dX5_tokenFrom_51 (by decide) ?_
            refine J.goto hG 56 dX5_tokenFrom_52 rfl ?_
            refine J.istore_n hG dX5_tokenFrom_56 rfl (Nat.le_of_ble_eq_true rfl) ?_
            refine J.iload_n hG dX5_tokenFrom_57 rfl rfl ?_
            refine J.if_eq hG 66 dX5_tokenFrom_58 rfl (fun h58 => ?_) (fun h58 => ?_)
            · refine J.iconst hG dX5_tokenFrom_66 (by decide) ?_
              refine J.iret hG dX5_tokenFrom_67 ?_
              rw [hX]; dsimp only
              exact ⟨by congr 2; unfold cdT; rw [if_neg h5]; first | (rw [if_pos (by omega)]; done) | (rw [if_neg (by omega)]; done), rfl⟩
            · refine J.iload_n hG dX5_tokenFrom_61 rfl rfl ?_
              refine J.ineg hG dX5_tokenFrom_62 (fun _ => (by omega)) ?_
              refine J.goto hG 67 dX5_tokenFrom_63 rfl ?_
              refine J.iret hG dX5_tokenFrom_67 ?_
              rw [hX]; dsimp only
              exact ⟨by congr 2; unfold cdT; rw [if_neg h5]; first | (rw [if_pos (by omega)]; done) | (rw [if_neg (by omega)]; done), rfl⟩
          · refine J.iload_n hG dX5_tokenFrom_45 rfl rfl ?_
            refine J.bipush hG dX5_tokenFrom_46 (by decide) (by decide) ?_
            refine J.icmp_ne hG 55 dX5_tokenFrom_48 rfl (fun h48 => ?_) (fun h48 => ?_)
            · refine J.iconst hG dX5_tokenFrom_55 (by decide) ?_
              refine J.istore_n hG dX5_tokenFrom_56 rfl (Nat.le_of_ble_eq_true rfl) ?_
              refine J.iload_n hG dX5_tokenFrom_57 rfl rfl ?_
              refine J.if_eq hG 66 dX5_tokenFrom_58 rfl (fun h58 => ?_) (fun h58 => ?_)
              · refine J.iconst hG dX5_tokenFrom_66 (by decide) ?_
                refine J.iret hG dX5_tokenFrom_67 ?_
                rw [hX]; dsimp only
                exact ⟨by congr 2; unfold cdT; rw [if_neg h5]; first | (rw [if_pos (by omega)]; done) | (rw [if_neg (by omega)]; done), rfl⟩
              · refine J.iload_n hG dX5_tokenFrom_61 rfl rfl ?_
                refine J.ineg hG dX5_tokenFrom_62 (fun _ => (by omega)) ?_
                refine J.goto hG 67 dX5_tokenFrom_63 rfl ?_
                refine J.iret hG dX5_tokenFrom_67 ?_
                rw [hX]; dsimp only
                exact ⟨by congr 2; unfold cdT; rw [if_neg h5]; first | (rw [if_pos (by omega)]; done) | (rw [if_neg (by omega)]; done), rfl⟩
            · refine J.iconst hG dX5_tokenFrom_51 (by decide) ?_
              refine J.goto hG 56 dX5_tokenFrom_52 rfl ?_
              refine J.istore_n hG dX5_tokenFrom_56 rfl (Nat.le_of_ble_eq_true rfl) ?_
              refine J.iload_n hG dX5_tokenFrom_57 rfl rfl ?_
              refine J.if_eq hG 66 dX5_tokenFrom_58 rfl (fun h58 => ?_) (fun h58 => ?_)
              · refine J.iconst hG dX5_tokenFrom_66 (by decide) ?_
                refine J.iret hG dX5_tokenFrom_67 ?_
                rw [hX]; dsimp only
                exact ⟨by congr 2; unfold cdT; rw [if_neg h5]; first | (rw [if_pos (by omega)]; done) | (rw [if_neg (by omega)]; done), rfl⟩
              · refine J.iload_n hG dX5_tokenFrom_61 rfl rfl ?_
                refine J.ineg hG dX5_tokenFrom_62 (fun _ => (by omega)) ?_
                refine J.goto hG 67 dX5_tokenFrom_63 rfl ?_
                refine J.iret hG dX5_tokenFrom_67 ?_
                rw [hX]; dsimp only
                exact ⟨by congr 2; unfold cdT; rw [if_neg h5]; first | (rw [if_pos (by omega)]; done) | (rw [if_neg (by omega)]; done), rfl⟩
  · refine J.aload_n hG dX5_tokenFrom_8 rfl rfl ?_
    refine J.iload_n hG dX5_tokenFrom_9 rfl rfl ?_
    refine J.callV hG (X5_numberFrom _ hT _ hp h5) ok_X5_numberFrom ml_X5_72 rfl rfl rfl rfl (Nat.le_of_ble_eq_true rfl) ⟨Nat.le_of_ble_eq_true rfl, Nat.le_of_ble_eq_true rfl⟩ dX5_tokenFrom_10 rfl (fun r1 μ1 hp1 => ?_)
    obtain ⟨rfl, rfl⟩ := hp1
    refine J.iret hG dX5_tokenFrom_13 ?_
    rw [hX]; dsimp only
    exact ⟨by congr 2; unfold cdT; rw [if_pos h5], rfl⟩

set_option maxRecDepth 100000 in
set_option maxHeartbeats 4000000 in
theorem X5_splitsIntoTokens (μ : Mem) (hT : XTx μ) : CT TX md_X5_splitsIntoTokens [aR 1] μ (fun rv μ1 => rv = none ∧ (∀ c : Nat, c ≠ 11 → c ≠ 12 → μ1 c = μ c) ∧ ∃ m : Nat, Toks μ1 m) := by
  refine CT.of (Nat.le_of_ble_eq_true rfl) (by decide) rfl (Nat.le_of_ble_eq_true rfl) (fun X hG hX => ?_)
  have hG : G TX X RX5 cX5_splitsIntoTokens 3 3 66 none := hG
  show J TX X 3 0 [some (aR 1), none, none] [] μ
  have lp : ∀ (k : Nat) (i : Int) (ν : Mem) (m : Int), 0 ≤ i → i + k = μ 1 0 → (∀ c : Nat, c ≠ 11 → c ≠ 12 → ν c = μ c) → (0 ≤ m ∧ m ≤ i) → (Stk (μ 10) (μ 1 0) m.toNat = nsF (μ 10) (μ 1 0) k i) → (∀ j : Nat, (j : Int) < m → 0 ≤ Stk (μ 10) (μ 1 0) j ∧ Stk (μ 10) (μ 1 0) j < i ∧ ν 12 j = Stk (μ 10) (μ 1 0) j ∧ ν 11 j = cdT (μ 10) (μ 1 0) (Stk (μ 10) (μ 1 0) j)) → J TX X 3 4 [some (aR 1), some (aI m), some (aI i)] [] ν := by
    intro k
    induction k with
    | zero =>
      intro i ν m i0 i1 hF hm hS hA
      have e1 : ν 1 = μ 1 := hF 1 (by decide) (by decide)
      have e10 : ν 10 = μ 10 := hF 10 (by decide) (by decide)
      have hTn : XTx ν := by unfold XTx; rw [e1, e10]; exact hT
      have hT1 := hT.1
      have e1n : ν 1 0 = μ 1 0 := by rw [e1]
      rw [nsF] at hS
      have hin : i = μ 1 0 := by omega
      refine J.iload_n hG dX5_splitsIntoTokens_4 rfl rfl ?_
      refine J.aload_n hG dX5_splitsIntoTokens_5 rfl rfl ?_
      refine J.getI hG ciX5 rfl 0 0 rfl (Nat.le_of_ble_eq_true rfl) rfl fl_X5_9 dX5_splitsIntoTokens_6 ?_
      refine J.icmp_ge hG 47 dX5_splitsIntoTokens_9 rfl (fun h9 => ?_) (fun h9 => absurd h9 (by omega))
      refine J.aload_n hG dX5_splitsIntoTokens_47 rfl rfl ?_
      refine J.getR hG ciX5 rfl 4 4 rfl (Nat.le_of_ble_eq_true rfl) rfl fl_X5_33 dX5_splitsIntoTokens_48 ?_
      refine J.iload_n hG dX5_splitsIntoTokens_51 rfl rfl ?_
      refine J.bipush hG dX5_splitsIntoTokens_52 (by decide) (by decide) ?_
      refine J.iast hG rfl (by omega) (by omega) dX5_splitsIntoTokens_54 ?_
      refine J.aload_n hG dX5_splitsIntoTokens_55 rfl rfl ?_
      refine J.getR hG ciX5 rfl 5 5 rfl (Nat.le_of_ble_eq_true rfl) rfl fl_X5_36 dX5_splitsIntoTokens_56 ?_
      refine J.iload_n hG dX5_splitsIntoTokens_59 rfl rfl ?_
      refine J.aload_n hG dX5_splitsIntoTokens_60 rfl rfl ?_
      refine J.getI hG ciX5 rfl 0 0 rfl (Nat.le_of_ble_eq_true rfl) rfl fl_X5_9 dX5_splitsIntoTokens_61 ?_
      refine J.iast hG rfl (by omega) (by omega) dX5_splitsIntoTokens_64 ?_
      refine J.vret hG dX5_splitsIntoTokens_65 ?_
      rw [hX]; dsimp only
      have r12 : ∀ j, up (up ν 11 m (-2)) 12 m (up ν 11 m (-2) 1 0) 11 j = up ν 11 m (-2) 11 j := fun j => by rw [up_cell _ _ _ (by decide)]
      have r10 : up (up ν 11 m (-2)) 12 m (up ν 11 m (-2) 1 0) 10 = μ 10 := by rw [up_cell _ _ _ (by decide), up_cell _ _ _ (by decide), e10]
      have r1 : up (up ν 11 m (-2)) 12 m (up ν 11 m (-2) 1 0) 1 = μ 1 := by rw [up_cell _ _ _ (by decide), up_cell _ _ _ (by decide), e1]
      refine ⟨rfl, fun c a b => by rw [up_cell _ _ _ b, up_cell _ _ _ a]; exact hF c a b, m.toNat, ?_⟩
      unfold Toks
      rw [r10, r1]
      refine ⟨fun j hj => ?_, by rw [hS]; exact hin, ?_, ?_, by omega⟩
      · have hj2 := hA j (by omega)
        refine ⟨hj2.1, by omega, ?_, ?_⟩
        · rw [up_ne _ (fun w => by omega), up_cell _ _ _ (by decide)]
          exact hj2.2.2.1
        · rw [r12, up_ne _ (fun w => by omega)]
          exact hj2.2.2.2
      · rw [r12, Int.toNat_of_nonneg hm.1, up_self]
      · rw [Int.toNat_of_nonneg hm.1, up_self, up_cell _ _ _ (by decide), e1n]
    | succ k ih =>
      intro i ν m i0 i1 hF hm hS hA
      have e1 : ν 1 = μ 1 := hF 1 (by decide) (by decide)
      have e10 : ν 10 = μ 10 := hF 10 (by decide) (by decide)
      have hTn : XTx ν := by unfold XTx; rw [e1, e10]; exact hT
      have hT1 := hT.1
      have e1n : ν 1 0 = μ 1 0 := by rw [e1]
      refine J.iload_n hG dX5_splitsIntoTokens_4 rfl rfl ?_
      refine J.aload_n hG dX5_splitsIntoTokens_5 rfl rfl ?_
      refine J.getI hG ciX5 rfl 0 0 rfl (Nat.le_of_ble_eq_true rfl) rfl fl_X5_9 dX5_splitsIntoTokens_6 ?_
      refine J.icmp_ge hG 47 dX5_splitsIntoTokens_9 rfl (fun h9 => absurd h9 (by omega)) (fun h9 => ?_)
      refine J.aload_n hG dX5_splitsIntoTokens_12 rfl rfl ?_
      refine J.iload_n hG dX5_splitsIntoTokens_13 rfl rfl ?_
      refine J.callV hG (X5_startsToken _ hTn _ (by omega)) ok_X5_startsToken ml_X5_61 rfl rfl rfl rfl (Nat.le_of_ble_eq_true rfl) ⟨Nat.le_of_ble_eq_true rfl, Nat.le_of_ble_eq_true rfl⟩ dX5_splitsIntoTokens_14 rfl (fun r1 μ1 hp1 => ?_)
      obtain ⟨rfl, rfl⟩ := hp1
      refine J.ifb_eq hG 41 dX5_splitsIntoTokens_17 rfl (fun h17 => ?_) (fun h17 => ?_)
      · refine J.iinc hG dX5_splitsIntoTokens_41 (Nat.le_of_ble_eq_true rfl) rfl (fun _ => (by omega)) ?_
        refine J.goto hG 4 dX5_splitsIntoTokens_44 rfl ?_
        rw [nsF, if_neg (by rw [← e10, ← e1n]; exact h17)] at hS
        exact ih (i + 1) _ _ (by omega) (by omega) hF (by omega) hS (fun j hj => by have := hA j hj; exact ⟨this.1, by omega, this.2.2⟩)
      · refine J.aload_n hG dX5_splitsIntoTokens_20 rfl rfl ?_
        refine J.getR hG ciX5 rfl 4 4 rfl (Nat.le_of_ble_eq_true rfl) rfl fl_X5_33 dX5_splitsIntoTokens_21 ?_
        refine J.iload_n hG dX5_splitsIntoTokens_24 rfl rfl ?_
        refine J.aload_n hG dX5_splitsIntoTokens_25 rfl rfl ?_
        refine J.iload_n hG dX5_splitsIntoTokens_26 rfl rfl ?_
        refine J.callV hG (X5_tokenFrom _ hTn _ (by omega)) ok_X5_tokenFrom ml_X5_65 rfl rfl rfl rfl (Nat.le_of_ble_eq_true rfl) ⟨Nat.le_of_ble_eq_true rfl, Nat.le_of_ble_eq_true rfl⟩ dX5_splitsIntoTokens_27 rfl (fun r1 μ1 hp1 => ?_)
        obtain ⟨rfl, rfl⟩ := hp1
        refine J.iast hG rfl (by omega) (by omega) dX5_splitsIntoTokens_30 ?_
        refine J.aload_n hG dX5_splitsIntoTokens_31 rfl rfl ?_
        refine J.getR hG ciX5 rfl 5 5 rfl (Nat.le_of_ble_eq_true rfl) rfl fl_X5_36 dX5_splitsIntoTokens_32 ?_
        refine J.iload_n hG dX5_splitsIntoTokens_35 rfl rfl ?_
        refine J.iload_n hG dX5_splitsIntoTokens_36 rfl rfl ?_
        refine J.iast hG rfl (by omega) (by omega) dX5_splitsIntoTokens_37 ?_
        refine J.iinc hG dX5_splitsIntoTokens_38 (Nat.le_of_ble_eq_true rfl) rfl (fun _ => (by omega)) ?_
        refine J.iinc hG dX5_splitsIntoTokens_41 (Nat.le_of_ble_eq_true rfl) rfl (fun _ => (by omega)) ?_
        refine J.goto hG 4 dX5_splitsIntoTokens_44 rfl ?_
        rw [nsF, if_pos (by rw [← e10, ← e1n]; exact h17)] at hS
        refine ih (i + 1) _ _ (by omega) (by omega) (fun c a b => by rw [up_cell _ _ _ b, up_cell _ _ _ a]; exact hF c a b) (by omega) ?_ (fun j hj => ?_)
        · rw [show (m + 1).toNat = m.toNat + 1 by omega, Stk, hS, nst]
          congr 1
          omega
        · rw [up_cell _ _ _ (show (11 : Nat) ≠ 12 by decide)]
          by_cases hjm : (j : Int) = m
          · have hjt : j = m.toNat := by omega
            rw [hjm, up_self, up_self, e10, e1n, hjt, hS]
            exact ⟨by omega, by omega, rfl, rfl⟩
          · have := hA j (by omega)
            refine ⟨this.1, by omega, ?_, ?_⟩
            · rw [up_ne _ (fun w => hjm w.2), up_cell _ _ _ (by decide)]
              exact this.2.2.1
            · rw [up_ne _ (fun w => hjm w.2)]
              exact this.2.2.2
  refine J.iconst hG dX5_splitsIntoTokens_0 (by decide) ?_
  refine J.istore_n hG dX5_splitsIntoTokens_1 rfl (Nat.le_of_ble_eq_true rfl) ?_
  refine J.iconst hG dX5_splitsIntoTokens_2 (by decide) ?_
  refine J.istore_n hG dX5_splitsIntoTokens_3 rfl (Nat.le_of_ble_eq_true rfl) ?_
  exact lp (μ 1 0).toNat 0 μ 0 (Int.le_refl _) (by have := hT.1; omega) (fun _ _ _ => rfl) (by omega) (by show nst _ _ _ = _; unfold nst; rw [Int.sub_zero]) (fun j hj => absurd hj (by omega))


/-! the reference's tokens -/
def MT (μ : Mem) : Prop := (0 ≤ μ 0 3 ∧ μ 0 3 ≤ 200) ∧ ∀ i : Int, 0 ≤ i → i < μ 0 3 → 0 ≤ μ 1 i ∧ μ 1 i ≤ 255
def Bd (f : Int → Int) (n x : Int) : Prop := dig f n x = 1 → dig f n (x - 1) = 0
def tokOK (t v c : Int) : Prop := (t = 2 ∧ v = c ∧ 0 ≤ c) ∨ (t = 1 ∧ v = -c ∧ (c = -115 ∨ c = -108 ∨ c = -100 ∨ c = -112)) ∨ (t = 3 ∧ c = -59) ∨ (t = 4 ∧ c = -1)
def AtT (f : Int → Int) (n p : Int) (μ : Mem) : Prop := μ 0 6 = p ∧ ((p = n ∧ μ 0 5 = 0 ∧ μ 0 4 = n) ∨ ((0 ≤ p ∧ p < n) ∧ tokOK (μ 0 5) (μ 0 7) (cdT f n p) ∧ (0 ≤ μ 0 4 ∧ μ 0 4 ≤ n) ∧ Bd f n (μ 0 4) ∧ nst f n (μ 0 4) = nst f n (p + 1)))
def FrL (μ ν : Mem) : Prop := (∀ c : Nat, c ≠ 0 → ν c = μ c) ∧ ∀ j : Int, (j < 4 ∨ 7 < j) → ν 0 j = μ 0 j
theorem FrL_up {μ ν : Mem} (h : FrL μ ν) (j x : Int) (hj : 4 ≤ j ∧ j ≤ 7) : FrL μ (up ν 0 j x) := ⟨fun c hc => by rw [up_cell _ _ _ hc]; exact h.1 c hc, fun i hi => by rw [up_ne _ (fun w => by omega)]; exact h.2 i hi⟩
theorem nst_no {f : Int → Int} {n q : Int} (h : q < n) (hs : ¬ isSt f n q = 1) : nst f n q = nst f n (q + 1) := by
  unfold nst
  rw [show (n - q).toNat = (n - (q + 1)).toNat + 1 by omega, nsF, if_neg hs]
theorem nst_yes {f : Int → Int} {n q : Int} (h : q < n) (hs : isSt f n q = 1) : nst f n q = q := by
  unfold nst
  rw [show (n - q).toNat = (n - (q + 1)).toNat + 1 by omega, nsF, if_pos hs]
theorem nst_end {f : Int → Int} {n q : Int} (h : n ≤ q) : nst f n q = q := by
  unfold nst
  rw [show (n - q).toNat = 0 by omega, nsF]
theorem dig_1 {f : Int → Int} {n p : Int} (h : dig f n p = 1) : 0 ≤ p ∧ p < n ∧ 48 ≤ f p ∧ f p ≤ 57 := by
  unfold dig at h
  split at h
  · assumption
  · omega
theorem dig_0 {f : Int → Int} {n p : Int} (h : ¬ (48 ≤ f p ∧ f p ≤ 57)) : dig f n p = 0 := by
  unfold dig
  rw [if_neg (fun w => h w.2.2)]
theorem dig_n {f : Int → Int} {n p : Int} (h : n ≤ p) : dig f n p = 0 := by
  unfold dig
  rw [if_neg (by omega)]
theorem dig_y {f : Int → Int} {n p : Int} (h : 0 ≤ p ∧ p < n) (h2 : 48 ≤ f p ∧ f p ≤ 57) : dig f n p = 1 := by
  unfold dig
  rw [if_pos ⟨h.1, h.2, h2.1, h2.2⟩]
theorem nst_dig {f : Int → Int} {n p : Int} : ∀ (k : Nat), (∀ j, p ≤ j → j < p + 1 + k → dig f n j = 1) → nst f n (p + 1 + k) = nst f n (p + 1)
  | 0, _ => by rw [show p + 1 + ((0 : Nat) : Int) = p + 1 by omega]
  | k + 1, h => by
    rw [← nst_dig k (fun j a b => h j a (by omega))]
    have h1 := h (p + 1 + k) (by omega) (by omega)
    have h0 := h (p + 1 + k - 1) (by omega) (by omega)
    have hb := dig_1 h1
    rw [nst_no (q := p + 1 + k) hb.2.1 (by unfold isSt; rw [if_neg (fun w => w.2 ⟨h1, h0⟩)]; decide)]
    congr 1
    omega
def vInv (f : Int → Int) (p e v : Int) : Prop := (0 ≤ v ∧ v ≤ 999) ∧ (e = p → v = 0) ∧ (e = p + 1 → v = f p - 48) ∧ (e = p + 2 → v = 10 * (f p - 48) + f (p + 1) - 48) ∧ (p + 3 ≤ e → f p = 48 ∨ 99 < v)
theorem vInv_step {f : Int → Int} {n p e v v' : Int} (he : p ≤ e) (hd : ∀ j, p ≤ j → j < e + 1 → dig f n j = 1) (h : vInv f p e v) (hv : v' = if 99 < v then v else 10 * v + f e - 48) : vInv f p (e + 1) v' := by
  have d0 := dig_1 (hd p (by omega) (by omega))
  have de := dig_1 (hd e (by omega) (by omega))
  obtain ⟨h0, h1, h2, h3, h4⟩ := h
  subst hv
  unfold vInv
  rcases (show e = p ∨ e = p + 1 ∨ e = p + 2 ∨ p + 3 ≤ e by omega) with q | q | q | q
  · have := h1 q
    subst q
    rw [if_neg (by omega)]
    refine ⟨by omega, fun w => by omega, fun w => by omega, fun w => by omega, fun w => by omega⟩
  · have := h2 q
    rw [if_neg (by omega)]
    subst q
    refine ⟨by omega, fun w => by omega, fun w => by omega, fun w => by omega, fun w => by omega⟩
  · have := h3 q
    have d1 := dig_1 (hd (p + 1) (by omega) (by omega))
    rw [if_neg (by omega)]
    refine ⟨by omega, fun w => by omega, fun w => by omega, fun w => by omega, fun w => by omega⟩
  · have := h4 q
    split <;> refine ⟨by omega, fun w => by omega, fun w => by omega, fun w => by omega, fun w => by omega⟩
theorem num_tok {f : Int → Int} {n p e v : Int} (hpe : p < e) (hd : ∀ j, p ≤ j → j < e → dig f n j = 1) (hz : dig f n e = 0) (h : vInv f p e v) : cdT f n p = if 99 < v ∨ (f p = 48 ∧ 1 < e - p) then -1 else v := by
  have d0 := hd p (by omega) (by omega)
  have b0 := dig_1 d0
  obtain ⟨h0, h1, h2, h3, h4⟩ := h
  unfold cdT numC
  rw [if_pos d0]
  rcases (show e = p + 1 ∨ e = p + 2 ∨ p + 3 ≤ e by omega) with q | q | q
  · have := h2 q
    rw [q] at hz
    rw [if_pos hz, if_neg (by omega)]
    omega
  · have := h3 q
    have d1 := hd (p + 1) (by omega) (by omega)
    have b1 := dig_1 d1
    rw [q] at hz
    rw [if_neg (by omega)]
    by_cases h9 : f p = 48
    · rw [if_pos (Or.inl (by omega)), if_pos (Or.inr (by omega))]
    · rw [if_neg (by omega), if_neg (by omega)]
      omega
  · have := h4 q
    have d1 := hd (p + 1) (by omega) (by omega)
    have d2 := hd (p + 2) (by omega) (by omega)
    rw [if_neg (by omega), if_pos (Or.inr d2), if_pos (by omega)]
theorem oth_tok {f : Int → Int} {n p : Int} (hd : ¬ (48 ≤ f p ∧ f p ≤ 57)) : cdT f n p = if f p = 115 ∨ f p = 108 ∨ f p = 100 ∨ f p = 112 ∨ f p = 59 then -f p else -1 := by
  unfold cdT
  rw [if_neg (by rw [dig_0 hd]; decide)]

set_option maxRecDepth 100000 in
set_option maxHeartbeats 4000000 in
theorem X7_letterAt_i (μ : Mem) (i : Int) (hi : 0 ≤ i ∧ i < μ 0 3 ∧ μ 0 3 ≤ 200) : CT TM md_X7_letterAt [aR 0, aI i] μ (fun rv μ1 => rv = some (aI (μ 1 i)) ∧ μ = μ1) := by
  refine CT.of (Nat.le_of_ble_eq_true rfl) (by decide) rfl (Nat.le_of_ble_eq_true rfl) (fun X hG hX => ?_)
  have hG : G TM X RX7 cX7_letterAt 2 0 0 (some .int) := hG
  show J TM X 2 0 [some (aR 0), some (aI i)] [] μ
  refine J.iload_n hG dX7_letterAt_0 rfl rfl ?_
  refine J.aload_n hG dX7_letterAt_1 rfl rfl ?_
  refine J.getI hG ciX7 rfl 3 3 rfl (Nat.le_of_ble_eq_true rfl) rfl fl_X7_82 dX7_letterAt_2 ?_
  refine J.icmp_ge hG 17 dX7_letterAt_5 rfl (fun h5 => absurd h5 (by omega)) (fun h5 => ?_)
  refine J.aload_n hG dX7_letterAt_8 rfl rfl ?_
  refine J.getR hG ciX7 rfl 2 2 rfl (Nat.le_of_ble_eq_true rfl) rfl fl_X7_7 dX7_letterAt_9 ?_
  refine J.iload_n hG dX7_letterAt_12 rfl rfl ?_
  refine J.iald hG rfl (by omega) (by omega) dX7_letterAt_13 ?_
  refine J.goto hG 18 dX7_letterAt_14 rfl ?_
  refine J.iret hG dX7_letterAt_18 ?_
  rw [hX]; dsimp only
  exact ⟨rfl, rfl⟩

set_option maxRecDepth 100000 in
set_option maxHeartbeats 4000000 in
theorem X7_letterAt_e (μ : Mem) (i : Int) (hi : μ 0 3 ≤ i) : CT TM md_X7_letterAt [aR 0, aI i] μ (fun rv μ1 => rv = some (aI (-1)) ∧ μ = μ1) := by
  refine CT.of (Nat.le_of_ble_eq_true rfl) (by decide) rfl (Nat.le_of_ble_eq_true rfl) (fun X hG hX => ?_)
  have hG : G TM X RX7 cX7_letterAt 2 0 0 (some .int) := hG
  show J TM X 2 0 [some (aR 0), some (aI i)] [] μ
  refine J.iload_n hG dX7_letterAt_0 rfl rfl ?_
  refine J.aload_n hG dX7_letterAt_1 rfl rfl ?_
  refine J.getI hG ciX7 rfl 3 3 rfl (Nat.le_of_ble_eq_true rfl) rfl fl_X7_82 dX7_letterAt_2 ?_
  refine J.icmp_ge hG 17 dX7_letterAt_5 rfl (fun h5 => ?_) (fun h5 => absurd h5 (by omega))
  refine J.iconst hG dX7_letterAt_17 (by decide) ?_
  refine J.iret hG dX7_letterAt_18 ?_
  rw [hX]; dsimp only
  exact ⟨rfl, rfl⟩


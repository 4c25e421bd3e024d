/-! the reference's tokens -/
def MT (μ : Mem) : Prop := (0 ≤ μ 0 3 ∧ μ 0 3 ≤ 200) ∧ ∀ i : Int, 0 ≤ i → i < μ 0 3 → 0 ≤ μ 1 i ∧ μ 1 i ≤ 255
def Bd (f : Int → Int) (n x : Int) : Prop := dig f n x = 1 → dig f n (x - 1) = 0
def tokOK (t v c : Int) : Prop := (t = 2 ∧ v = c ∧ 0 ≤ c) ∨ (t = 1 ∧ v = -c ∧ (c = -115 ∨ c = -108 ∨ c = -100 ∨ c = -112)) ∨ (t = 3 ∧ c = -59) ∨ (t = 4 ∧ c = -1)
def AtT (f : Int → Int) (n p : Int) (μ : Mem) : Prop := μ 0 6 = p ∧ ((p = n ∧ μ 0 5 = 0 ∧ μ 0 4 = n) ∨ ((0 ≤ p ∧ p < n) ∧ tokOK (μ 0 5) (μ 0 7) (cdT f n p) ∧ (0 ≤ μ 0 4 ∧ μ 0 4 ≤ n) ∧ Bd f n (μ 0 4) ∧ nst f n (μ 0 4) = nst f n (p + 1)))
def FrL (μ ν : Mem) : Prop := (∀ c : Nat, c ≠ 0 → ν c = μ c) ∧ ∀ j : Int, (j < 4 ∨ 7 < j) → ν 0 j = μ 0 j
theorem FrL_up {μ ν : Mem} (h : FrL μ ν) (j x : Int) (hj : 4 ≤ j ∧ j ≤ 7) : FrL μ (up ν 0 j x) := ⟨fun c hc => by rw [up_cell _ _ _ hc]; exact h.1 c hc, fun i hi => by rw [up_ne _ (fun w => by omega)]; exact h.2 i hi⟩
theorem nst_no {f : Int → Int} {n q : Int} (h : q < n) (hs : ¬ isSt f n q = 1) : nst f n q = nst f n (q + 1) := by
  unfold nst
  rw [show (n - q).toNat = (n - (q + 1)).toNat + 1 by omega, nsF, if_neg hs]
theorem nst_yes {f : Int → Int} {n q : Int} (h : q < n) (hs : isSt f n q = 1) : nst f n q = q := by
  unfold nst
  rw [show (n - q).toNat = (n - (q + 1)).toNat + 1 by omega, nsF, if_pos hs]
theorem nst_end {f : Int → Int} {n q : Int} (h : n ≤ q) : nst f n q = q := by
  unfold nst
  rw [show (n - q).toNat = 0 by omega, nsF]
theorem dig_1 {f : Int → Int} {n p : Int} (h : dig f n p = 1) : 0 ≤ p ∧ p < n ∧ 48 ≤ f p ∧ f p ≤ 57 := by
  unfold dig at h
  split at h
  · assumption
  · omega
theorem dig_0 {f : Int → Int} {n p : Int} (h : ¬ (48 ≤ f p ∧ f p ≤ 57)) : dig f n p = 0 := by
  unfold dig
  rw [if_neg (fun w => h w.2.2)]
theorem dig_n {f : Int → Int} {n p : Int} (h : n ≤ p) : dig f n p = 0 := by
  unfold dig
  rw [if_neg (by omega)]
theorem dig_y {f : Int → Int} {n p : Int} (h : 0 ≤ p ∧ p < n) (h2 : 48 ≤ f p ∧ f p ≤ 57) : dig f n p = 1 := by
  unfold dig
  rw [if_pos ⟨h.1, h.2, h2.1, h2.2⟩]
theorem nst_dig {f : Int → Int} {n p : Int} : ∀ (k : Nat), (∀ j, p ≤ j → j < p + 1 + k → dig f n j = 1) → nst f n (p + 1 + k) = nst f n (p + 1)
  | 0, _ => by rw [show p + 1 + ((0 : Nat) : Int) = p + 1 by omega]
  | k + 1, h => by
    rw [← nst_dig k (fun j a b => h j a (by omega))]
    have h1 := h (p + 1 + k) (by omega) (by omega)
    have h0 := h (p + 1 + k - 1) (by omega) (by omega)
    have hb := dig_1 h1
    rw [nst_no (q := p + 1 + k) hb.2.1 (by unfold isSt; rw [if_neg (fun w => w.2 ⟨h1, h0⟩)]; decide)]
    congr 1
    omega
def vInv (f : Int → Int) (p e v : Int) : Prop := (0 ≤ v ∧ v ≤ 999) ∧ (e = p → v = 0) ∧ (e = p + 1 → v = f p - 48) ∧ (e = p + 2 → v = 10 * (f p - 48) + f (p + 1) - 48) ∧ (p + 3 ≤ e → f p = 48 ∨ 99 < v)
theorem vInv_step {f : Int → Int} {n p e v v' : Int} (he : p ≤ e) (hd : ∀ j, p ≤ j → j < e + 1 → dig f n j = 1) (h : vInv f p e v) (hv : v' = if 99 < v then v else 10 * v + f e - 48) : vInv f p (e + 1) v' := by
  have d0 := dig_1 (hd p (by omega) (by omega))
  have de := dig_1 (hd e (by omega) (by omega))
  obtain ⟨h0, h1, h2, h3, h4⟩ := h
  subst hv
  unfold vInv
  rcases (show e = p ∨ e = p + 1 ∨ e = p + 2 ∨ p + 3 ≤ e by omega) with q | q | q | q
  · have := h1 q
    subst q
    rw [if_neg (by omega)]
    refine ⟨by omega, fun w => by omega, fun w => by omega, fun w => by omega, fun w => by omega⟩
  · have := h2 q
    rw [if_neg (by omega)]
    subst q
    refine ⟨by omega, fun w => by omega, fun w => by omega, fun w => by omega, fun w => by omega⟩
  · have := h3 q
    have d1 := dig_1 (hd (p + 1) (by omega) (by omega))
    rw [if_neg (by omega)]
    refine ⟨by omega, fun w => by omega, fun w => by omega, fun w => by omega, fun w => by omega⟩
  · have := h4 q
    split <;> refine ⟨by omega, fun w => by omega, fun w => by omega, fun w => by omega, fun w => by omega⟩
theorem num_tok {f : Int → Int} {n p e v : Int} (hpe : p < e) (hd : ∀ j, p ≤ j → j < e → dig f n j = 1) (hz : dig f n e = 0) (h : vInv f p e v) : cdT f n p = if 99 < v ∨ (f p = 48 ∧ 1 < e - p) then -1 else v := by
  have d0 := hd p (by omega) (by omega)
  have b0 := dig_1 d0
  obtain ⟨h0, h1, h2, h3, h4⟩ := h
  unfold cdT numC
  rw [if_pos d0]
  rcases (show e = p + 1 ∨ e = p + 2 ∨ p + 3 ≤ e by omega) with q | q | q
  · have := h2 q
    rw [q] at hz
    rw [if_pos hz, if_neg (by omega)]
    omega
  · have := h3 q
    have d1 := hd (p + 1) (by omega) (by omega)
    have b1 := dig_1 d1
    rw [q] at hz
    rw [if_neg (by omega)]
    by_cases h9 : f p = 48
    · rw [if_pos (Or.inl (by omega)), if_pos (Or.inr (by omega))]
    · rw [if_neg (by omega), if_neg (by omega)]
      omega
  · have := h4 q
    have d1 := hd (p + 1) (by omega) (by omega)
    have d2 := hd (p + 2) (by omega) (by omega)
    rw [if_neg (by omega), if_pos (Or.inr d2), if_pos (by omega)]
theorem oth_tok {f : Int → Int} {n p : Int} (hd : ¬ (48 ≤ f p ∧ f p ≤ 57)) : cdT f n p = if f p = 115 ∨ f p = 108 ∨ f p = 100 ∨ f p = 112 ∨ f p = 59 then -f p else -1 := by
  unfold cdT
  rw [if_neg (by rw [dig_0 hd]; decide)]

set_option maxRecDepth 100000 in
set_option maxHeartbeats 4000000 in
theorem X7_letterAt_i (μ : Mem) (i : Int) (hi : 0 ≤ i ∧ i < μ 0 3 ∧ μ 0 3 ≤ 200) : CT TM md_X7_letterAt [aR 0, aI i] μ (fun rv μ1 => rv = some (aI (μ 1 i)) ∧ μ = μ1) := by
  refine CT.of (Nat.le_of_ble_eq_true rfl) (by decide) rfl (Nat.le_of_ble_eq_true rfl) (fun X hG hX => ?_)
  have hG : G TM X RX7 cX7_letterAt 2 0 0 (some .int) := hG
  show J TM X 2 0 [some (aR 0), some (aI i)] [] μ
  refine J.iload_n hG dX7_letterAt_0 rfl rfl ?_
  refine J.aload_n hG dX7_letterAt_1 rfl rfl ?_
  refine J.getI hG ciX7 rfl 3 3 rfl (Nat.le_of_ble_eq_true rfl) rfl fl_X7_82 dX7_letterAt_2 ?_
  refine J.icmp_ge hG 17 dX7_letterAt_5 rfl (fun h5 => absurd h5 (by omega)) (fun h5 => ?_)
  refine J.aload_n hG dX7_letterAt_8 rfl rfl ?_
  refine J.getR hG ciX7 rfl 2 2 rfl (Nat.le_of_ble_eq_true rfl) rfl fl_X7_7 dX7_letterAt_9 ?_
  refine J.iload_n hG dX7_letterAt_12 rfl rfl ?_
  refine J.iald hG rfl (by omega) (by omega) dX7_letterAt_13 ?_
  refine J.goto hG 18 dX7_letterAt_14 rfl ?_
  refine J.iret hG dX7_letterAt_18 ?_
  rw [hX]; dsimp only
  exact ⟨rfl, rfl⟩

set_option maxRecDepth 100000 in
set_option maxHeartbeats 4000000 in
theorem X7_letterAt_e (μ : Mem) (i : Int) (hi : μ 0 3 ≤ i) : CT TM md_X7_letterAt [aR 0, aI i] μ (fun rv μ1 => rv = some (aI (-1)) ∧ μ = μ1) := by
  refine CT.of (Nat.le_of_ble_eq_true rfl) (by decide) rfl (Nat.le_of_ble_eq_true rfl) (fun X hG hX => ?_)
  have hG : G TM X RX7 cX7_letterAt 2 0 0 (some .int) := hG
  show J TM X 2 0 [some (aR 0), some (aI i)] [] μ
  refine J.iload_n hG dX7_letterAt_0 rfl rfl ?_
  refine J.aload_n hG dX7_letterAt_1 rfl rfl ?_
  refine J.getI hG ciX7 rfl 3 3 rfl (Nat.le_of_ble_eq_true rfl) rfl fl_X7_82 dX7_letterAt_2 ?_
  refine J.icmp_ge hG 17 dX7_letterAt_5 rfl (fun h5 => ?_) (fun h5 => absurd h5 (by omega))
  refine J.iconst hG dX7_letterAt_17 (by decide) ?_
  refine J.iret hG dX7_letterAt_18 ?_
  rw [hX]; dsimp only
  exact ⟨rfl, rfl⟩

theorem AtT_of {f : Int → Int} {n p t v e : Int} {μ : Mem} (h6 : μ 0 6 = p) (hp : 0 ≤ p ∧ p < n) (h5 : μ 0 5 = t) (h7 : μ 0 7 = v) (h4 : μ 0 4 = e) (tok : tokOK t v (cdT f n p)) (he : 0 ≤ e ∧ e ≤ n) (hb : Bd f n e) (hn : nst f n e = nst f n (p + 1)) : AtT f n p μ := by
  unfold AtT
  rw [h6, h5, h7, h4]
  exact ⟨rfl, Or.inr ⟨hp, tok, he, hb, hn⟩⟩

set_option maxRecDepth 100000 in
set_option maxHeartbeats 4000000 in
theorem X7_advances (μ : Mem) (hT : MT μ) (h4 : 0 ≤ μ 0 4 ∧ μ 0 4 ≤ μ 0 3) (hb : Bd (μ 1) (μ 0 3) (μ 0 4)) : CT TM md_X7_advances [aR 0] μ (fun rv μ1 => rv = none ∧ FrL μ μ1 ∧ AtT (μ 1) (μ 0 3) (nst (μ 1) (μ 0 3) (μ 0 4)) μ1) := by
  refine CT.of (Nat.le_of_ble_eq_true rfl) (by decide) rfl (Nat.le_of_ble_eq_true rfl) (fun X hG hX => ?_)
  have hG : G TM X RX7 cX7_advances 2 1 22 none := hG
  show J TM X 2 0 [some (aR 0), none] [] μ
  have hT1 := hT.1
  have lp0 : ∀ (k : Nat) (x : Int) (ν : Mem), x + k = μ 0 3 → 0 ≤ x → FrL μ ν → ν 0 4 = x → Bd (μ 1) (μ 0 3) x → nst (μ 1) (μ 0 3) x = nst (μ 1) (μ 0 3) (μ 0 4) → J TM X 2 0 [some (aR 0), none] [] ν := by
    intro k
    induction k with
    | zero =>
      intro x ν i0 i1 hF h4 hb hx
      have e3 : ν 0 3 = μ 0 3 := hF.2 3 (by omega)
      have hPx : nst (μ 1) (μ 0 3) (μ 0 4) = x := by rw [← hx]; exact nst_end (by omega)
      refine J.aload_n hG dX7_advances_0 rfl rfl ?_
      refine J.aload_n hG dX7_advances_1 rfl rfl ?_
      refine J.getI hG ciX7 rfl 4 4 rfl (Nat.le_of_ble_eq_true rfl) rfl fl_X7_85 dX7_advances_2 ?_
      refine J.callV hG (X7_letterAt_e _ _ (by omega)) ok_X7_letterAt ml_X7_88 rfl rfl rfl rfl (Nat.le_of_ble_eq_true rfl) ⟨Nat.le_of_ble_eq_true rfl, Nat.le_of_ble_eq_true rfl⟩ dX7_advances_5 rfl (fun r1 μ1 hp1 => ?_)
      obtain ⟨rfl, rfl⟩ := hp1
      refine J.bipush hG dX7_advances_8 (by decide) (by decide) ?_
      refine J.icmp_ne hG 26 dX7_advances_10 rfl (fun h10 => ?_) (fun h10 => absurd h10 (by omega))
      refine J.aload_n hG dX7_advances_26 rfl rfl ?_
      refine J.aload_n hG dX7_advances_27 rfl rfl ?_
      refine J.getI hG ciX7 rfl 4 4 rfl (Nat.le_of_ble_eq_true rfl) rfl fl_X7_85 dX7_advances_28 ?_
      refine J.putI hG ciX7 rfl 6 6 rfl (Nat.le_of_ble_eq_true rfl) rfl fl_X7_92 rfl rfl dX7_advances_31 ?_
      obtain ⟨ν1, hν1⟩ : ∃ ν1, ν1 = up ν 0 6 (ν 0 4) := ⟨_, rfl⟩
      rw [← hν1]
      have hF1 : FrL μ ν1 := by rw [hν1]; exact FrL_up hF _ _ (by decide)
      have f3 : ν1 0 3 = μ 0 3 := hF1.2 3 (by omega)
      have f1 : ν1 1 = μ 1 := hF1.1 1 (by decide)
      have f4 : ν1 0 4 = x := by rw [hν1, up_ne _ (by decide)]; exact h4
      have f6 : ν1 0 6 = x := by rw [hν1, up_self]; exact h4
      clear hν1
      refine J.aload_n hG dX7_advances_34 rfl rfl ?_
      refine J.aload_n hG dX7_advances_35 rfl rfl ?_
      refine J.getI hG ciX7 rfl 4 4 rfl (Nat.le_of_ble_eq_true rfl) rfl fl_X7_85 dX7_advances_36 ?_
      refine J.callV hG (X7_letterAt_e _ _ (by omega)) ok_X7_letterAt ml_X7_88 rfl rfl rfl rfl (Nat.le_of_ble_eq_true rfl) ⟨Nat.le_of_ble_eq_true rfl, Nat.le_of_ble_eq_true rfl⟩ dX7_advances_39 rfl (fun r1 μ1 hp1 => ?_)
      obtain ⟨rfl, rfl⟩ := hp1
      refine J.istore_n hG dX7_advances_42 rfl (Nat.le_of_ble_eq_true rfl) ?_
      refine J.iload_n hG dX7_advances_43 rfl rfl ?_
      refine J.if_ge hG 55 dX7_advances_44 rfl (fun h44 => absurd h44 (by omega)) (fun h44 => ?_)
      refine J.aload_n hG dX7_advances_47 rfl rfl ?_
      refine J.iconst hG dX7_advances_48 (by decide) ?_
      refine J.putI hG ciX7 rfl 5 5 rfl (Nat.le_of_ble_eq_true rfl) rfl fl_X7_95 rfl rfl dX7_advances_49 ?_
      refine J.goto hG 239 dX7_advances_52 rfl ?_
      refine J.vret hG dX7_advances_239 ?_
      rw [hX]; dsimp only
      refine ⟨rfl, FrL_up hF1 _ _ (by decide), ?_⟩
      rw [hPx]
      exact ⟨by simp [up, f6], Or.inl ⟨by omega, by simp [up], by simp [up, f4]; omega⟩⟩
    | succ k ih =>
      intro x ν i0 i1 hF h4 hb hx
      have e3 : ν 0 3 = μ 0 3 := hF.2 3 (by omega)
      have e1 : ν 1 = μ 1 := hF.1 1 (by decide)
      have hl := hT.2 x (by omega) (by omega)
      refine J.aload_n hG dX7_advances_0 rfl rfl ?_
      refine J.aload_n hG dX7_advances_1 rfl rfl ?_
      refine J.getI hG ciX7 rfl 4 4 rfl (Nat.le_of_ble_eq_true rfl) rfl fl_X7_85 dX7_advances_2 ?_
      refine J.callV hG (X7_letterAt_i _ _ (by omega)) ok_X7_letterAt ml_X7_88 rfl rfl rfl rfl (Nat.le_of_ble_eq_true rfl) ⟨Nat.le_of_ble_eq_true rfl, Nat.le_of_ble_eq_true rfl⟩ dX7_advances_5 rfl (fun r1 μ1 hp1 => ?_)
      obtain ⟨rfl, rfl⟩ := hp1
      rw [e1, h4]
      refine J.bipush hG dX7_advances_8 (by decide) (by decide) ?_
      refine J.icmp_ne hG 26 dX7_advances_10 rfl (fun h10 => ?_) (fun h10 => ?_)
      · have hxn : 0 ≤ x ∧ x < μ 0 3 := by omega
        have hPx : nst (μ 1) (μ 0 3) (μ 0 4) = x := by rw [← hx]; exact nst_yes hxn.2 (by unfold isSt; rw [if_pos ⟨h10, fun w => by have := hb w.1; omega⟩])
        refine J.aload_n hG dX7_advances_26 rfl rfl ?_
        refine J.aload_n hG dX7_advances_27 rfl rfl ?_
        refine J.getI hG ciX7 rfl 4 4 rfl (Nat.le_of_ble_eq_true rfl) rfl fl_X7_85 dX7_advances_28 ?_
        refine J.putI hG ciX7 rfl 6 6 rfl (Nat.le_of_ble_eq_true rfl) rfl fl_X7_92 rfl rfl dX7_advances_31 ?_
        obtain ⟨ν1, hν1⟩ : ∃ ν1, ν1 = up ν 0 6 (ν 0 4) := ⟨_, rfl⟩
        rw [← hν1]
        have hF1 : FrL μ ν1 := by rw [hν1]; exact FrL_up hF _ _ (by decide)
        have f3 : ν1 0 3 = μ 0 3 := hF1.2 3 (by omega)
        have f1 : ν1 1 = μ 1 := hF1.1 1 (by decide)
        have f4 : ν1 0 4 = x := by rw [hν1, up_ne _ (by decide)]; exact h4
        have f6 : ν1 0 6 = x := by rw [hν1, up_self]; exact h4
        clear hν1
        refine J.aload_n hG dX7_advances_34 rfl rfl ?_
        refine J.aload_n hG dX7_advances_35 rfl rfl ?_
        refine J.getI hG ciX7 rfl 4 4 rfl (Nat.le_of_ble_eq_true rfl) rfl fl_X7_85 dX7_advances_36 ?_
        refine J.callV hG (X7_letterAt_i _ _ (by omega)) ok_X7_letterAt ml_X7_88 rfl rfl rfl rfl (Nat.le_of_ble_eq_true rfl) ⟨Nat.le_of_ble_eq_true rfl, Nat.le_of_ble_eq_true rfl⟩ dX7_advances_39 rfl (fun r1 μ1 hp1 => ?_)
        obtain ⟨rfl, rfl⟩ := hp1
        rw [f1, f4]
        refine J.istore_n hG dX7_advances_42 rfl (Nat.le_of_ble_eq_true rfl) ?_
        refine J.iload_n hG dX7_advances_43 rfl rfl ?_
        refine J.if_ge hG 55 dX7_advances_44 rfl (fun h44 => ?_) (fun h44 => absurd h44 (by omega))
        refine J.iload_n hG dX7_advances_55 rfl rfl ?_
        refine J.bipush hG dX7_advances_56 (by decide) (by decide) ?_
        refine J.bipush hG dX7_advances_58 (by decide) (by decide) ?_
        refine J.callS hG (X7_in _ _ _ _) ok_X7_in ml_X7_78 rfl (Nat.le_of_ble_eq_true rfl) ⟨Nat.le_of_ble_eq_true rfl, Nat.le_of_ble_eq_true rfl⟩ dX7_advances_60 rfl (fun r1 μ1 hp1 => ?_)
        obtain ⟨rfl, rfl⟩ := hp1
        refine J.ifb_eq hG 181 dX7_advances_63 rfl (fun h63 => ?_) (fun h63 => ?_)
        · refine J.aload_n hG dX7_advances_181 rfl rfl ?_
          refine J.dup hG dX7_advances_182 (fun _ => rfl) ?_
          refine J.getI hG ciX7 rfl 4 4 rfl (Nat.le_of_ble_eq_true rfl) rfl fl_X7_85 dX7_advances_183 ?_
          refine J.iconst hG dX7_advances_186 (by decide) ?_
          refine J.iadd hG dX7_advances_187 (fun _ _ => (by omega)) ?_
          refine J.putI hG ciX7 rfl 4 4 rfl (Nat.le_of_ble_eq_true rfl) rfl fl_X7_85 rfl rfl dX7_advances_188 ?_
          refine J.aload_n hG dX7_advances_191 rfl rfl ?_
          refine J.iload_n hG dX7_advances_192 rfl rfl ?_
          refine J.putI hG ciX7 rfl 7 7 rfl (Nat.le_of_ble_eq_true rfl) rfl fl_X7_98 rfl rfl dX7_advances_193 ?_
          refine J.aload_n hG dX7_advances_196 rfl rfl ?_
          refine J.iload_n hG dX7_advances_197 rfl rfl ?_
          refine J.bipush hG dX7_advances_198 (by decide) (by decide) ?_
          refine J.icmp_ne hG 207 dX7_advances_200 rfl (fun h200 => ?_) (fun h200 => ?_)
          · refine J.iload_n hG dX7_advances_207 rfl rfl ?_
            refine J.bipush hG dX7_advances_208 (by decide) (by decide) ?_
            refine J.icmp_eq hG 231 dX7_advances_210 rfl (fun h210 => ?_) (fun h210 => ?_)
            · refine J.iconst hG dX7_advances_231 (by decide) ?_
              refine J.goto hG 236 dX7_advances_232 rfl ?_
              refine J.putI hG ciX7 rfl 5 5 rfl (Nat.le_of_ble_eq_true rfl) rfl fl_X7_95 rfl rfl dX7_advances_236 ?_
              refine J.vret hG dX7_advances_239 ?_
              rw [hX]; dsimp only
              refine ⟨rfl, FrL_up (FrL_up (FrL_up hF1 _ _ (by decide)) _ _ (by decide)) _ _ (by decide), ?_⟩
              rw [hPx]
              exact AtT_of (t := 1) (v := μ 1 x) (e := x + 1) (by simp [up, f6]) hxn (by simp [up]) (by simp [up]) (by simp [up, f4]) (Or.inr (Or.inl ⟨rfl, by rw [oth_tok h63, if_pos (by omega)]; omega, by rw [oth_tok h63, if_pos (by omega)]; omega⟩)) (by omega) (fun _ => by rw [show x + 1 - 1 = x by omega]; exact dig_0 h63) rfl
            · refine J.iload_n hG dX7_advances_213 rfl rfl ?_
              refine J.bipush hG dX7_advances_214 (by decide) (by decide) ?_
              refine J.icmp_eq hG 231 dX7_advances_216 rfl (fun h216 => ?_) (fun h216 => ?_)
              · refine J.iconst hG dX7_advances_231 (by decide) ?_
                refine J.goto hG 236 dX7_advances_232 rfl ?_
                refine J.putI hG ciX7 rfl 5 5 rfl (Nat.le_of_ble_eq_true rfl) rfl fl_X7_95 rfl rfl dX7_advances_236 ?_
                refine J.vret hG dX7_advances_239 ?_
                rw [hX]; dsimp only
                refine ⟨rfl, FrL_up (FrL_up (FrL_up hF1 _ _ (by decide)) _ _ (by decide)) _ _ (by decide), ?_⟩
                rw [hPx]
                exact AtT_of (t := 1) (v := μ 1 x) (e := x + 1) (by simp [up, f6]) hxn (by simp [up]) (by simp [up]) (by simp [up, f4]) (Or.inr (Or.inl ⟨rfl, by rw [oth_tok h63, if_pos (by omega)]; omega, by rw [oth_tok h63, if_pos (by omega)]; omega⟩)) (by omega) (fun _ => by rw [show x + 1 - 1 = x by omega]; exact dig_0 h63) rfl
              · refine J.iload_n hG dX7_advances_219 rfl rfl ?_
                refine J.bipush hG dX7_advances_220 (by decide) (by decide) ?_
                refine J.icmp_eq hG 231 dX7_advances_222 rfl (fun h222 => ?_) (fun h222 => ?_)
                · refine J.iconst hG dX7_advances_231 (by decide) ?_
                  refine J.goto hG 236 dX7_advances_232 rfl ?_
                  refine J.putI hG ciX7 rfl 5 5 rfl (Nat.le_of_ble_eq_true rfl) rfl fl_X7_95 rfl rfl dX7_advances_236 ?_
                  refine J.vret hG dX7_advances_239 ?_
                  rw [hX]; dsimp only
                  refine ⟨rfl, FrL_up (FrL_up (FrL_up hF1 _ _ (by decide)) _ _ (by decide)) _ _ (by decide), ?_⟩
                  rw [hPx]
                  exact AtT_of (t := 1) (v := μ 1 x) (e := x + 1) (by simp [up, f6]) hxn (by simp [up]) (by simp [up]) (by simp [up, f4]) (Or.inr (Or.inl ⟨rfl, by rw [oth_tok h63, if_pos (by omega)]; omega, by rw [oth_tok h63, if_pos (by omega)]; omega⟩)) (by omega) (fun _ => by rw [show x + 1 - 1 = x by omega]; exact dig_0 h63) rfl
                · refine J.iload_n hG dX7_advances_225 rfl rfl ?_
                  refine J.bipush hG dX7_advances_226 (by decide) (by decide) ?_
                  refine J.icmp_ne hG 235 dX7_advances_228 rfl (fun h228 => ?_) (fun h228 => ?_)
                  · refine J.iconst hG dX7_advances_235 (by decide) ?_
                    refine J.putI hG ciX7 rfl 5 5 rfl (Nat.le_of_ble_eq_true rfl) rfl fl_X7_95 rfl rfl dX7_advances_236 ?_
                    refine J.vret hG dX7_advances_239 ?_
                    rw [hX]; dsimp only
                    refine ⟨rfl, FrL_up (FrL_up (FrL_up hF1 _ _ (by decide)) _ _ (by decide)) _ _ (by decide), ?_⟩
                    rw [hPx]
                    exact AtT_of (t := 4) (v := μ 1 x) (e := x + 1) (by simp [up, f6]) hxn (by simp [up]) (by simp [up]) (by simp [up, f4]) (Or.inr (Or.inr (Or.inr ⟨rfl, by rw [oth_tok h63, if_neg (by omega)]⟩))) (by omega) (fun _ => by rw [show x + 1 - 1 = x by omega]; exact dig_0 h63) rfl
                  · refine J.iconst hG dX7_advances_231 (by decide) ?_
                    refine J.goto hG 236 dX7_advances_232 rfl ?_
                    refine J.putI hG ciX7 rfl 5 5 rfl (Nat.le_of_ble_eq_true rfl) rfl fl_X7_95 rfl rfl dX7_advances_236 ?_
                    refine J.vret hG dX7_advances_239 ?_
                    rw [hX]; dsimp only
                    refine ⟨rfl, FrL_up (FrL_up (FrL_up hF1 _ _ (by decide)) _ _ (by decide)) _ _ (by decide), ?_⟩
                    rw [hPx]
                    exact AtT_of (t := 1) (v := μ 1 x) (e := x + 1) (by simp [up, f6]) hxn (by simp [up]) (by simp [up]) (by simp [up, f4]) (Or.inr (Or.inl ⟨rfl, by rw [oth_tok h63, if_pos (by omega)]; omega, by rw [oth_tok h63, if_pos (by omega)]; omega⟩)) (by omega) (fun _ => by rw [show x + 1 - 1 = x by omega]; exact dig_0 h63) rfl
          · refine J.iconst hG dX7_advances_203 (by decide) ?_
            refine J.goto hG 236 dX7_advances_204 rfl ?_
            refine J.putI hG ciX7 rfl 5 5 rfl (Nat.le_of_ble_eq_true rfl) rfl fl_X7_95 rfl rfl dX7_advances_236 ?_
            refine J.vret hG dX7_advances_239 ?_
            rw [hX]; dsimp only
            refine ⟨rfl, FrL_up (FrL_up (FrL_up hF1 _ _ (by decide)) _ _ (by decide)) _ _ (by decide), ?_⟩
            rw [hPx]
            exact AtT_of (t := 3) (v := μ 1 x) (e := x + 1) (by simp [up, f6]) hxn (by simp [up]) (by simp [up]) (by simp [up, f4]) (Or.inr (Or.inr (Or.inl ⟨rfl, by rw [oth_tok h63, if_pos (by omega)]; omega⟩))) (by omega) (fun _ => by rw [show x + 1 - 1 = x by omega]; exact dig_0 h63) rfl
        · refine J.aload_n hG dX7_advances_66 rfl rfl ?_
          refine J.iconst hG dX7_advances_67 (by decide) ?_
          refine J.putI hG ciX7 rfl 7 7 rfl (Nat.le_of_ble_eq_true rfl) rfl fl_X7_98 rfl rfl dX7_advances_68 ?_
          have fin7 : ∀ (e v : Int) (ν : Mem), x < e → e ≤ μ 0 3 → FrL μ ν → ν 0 6 = x → ν 0 4 = e → ν 0 7 = v → (∀ j : Int, x ≤ j → j < e → dig (μ 1) (μ 0 3) j = 1) → dig (μ 1) (μ 0 3) e = 0 → vInv (μ 1) x e v → J TM X 2 141 [some (aR 0), some (aI (μ 1 x))] [] ν := by
            intro e v ν i0 i1 hF h6 h4 h7 hd hz hv
            have hc := num_tok i0 hd hz hv
            have hv0 := hv.1
            have hn := nst_dig (f := μ 1) (n := μ 0 3) (p := x) (e - x - 1).toNat (fun j a b => hd j a (by omega))
            rw [show x + 1 + ((e - x - 1).toNat : Int) = e by omega] at hn
            refine J.aload_n hG dX7_advances_141 rfl rfl ?_
            refine J.aload_n hG dX7_advances_142 rfl rfl ?_
            refine J.getI hG ciX7 rfl 7 7 rfl (Nat.le_of_ble_eq_true rfl) rfl fl_X7_98 dX7_advances_143 ?_
            refine J.bipush hG dX7_advances_146 (by decide) (by decide) ?_
            refine J.icmp_gt hG 170 dX7_advances_148 rfl (fun h148 => ?_) (fun h148 => ?_)
            · refine J.iconst hG dX7_advances_170 (by decide) ?_
              refine J.goto hG 175 dX7_advances_171 rfl ?_
              refine J.putI hG ciX7 rfl 5 5 rfl (Nat.le_of_ble_eq_true rfl) rfl fl_X7_95 rfl rfl dX7_advances_175 ?_
              refine J.goto hG 239 dX7_advances_178 rfl ?_
              refine J.vret hG dX7_advances_239 ?_
              rw [hX]; dsimp only
              refine ⟨rfl, FrL_up hF _ _ (by decide), ?_⟩
              rw [hPx]
              exact AtT_of (t := 4) (v := v) (e := e) (by simp [up, h6]) hxn (by simp [up]) (by simp [up, h7]) (by simp [up, h4]) (Or.inr (Or.inr (Or.inr ⟨rfl, by rw [hc, if_pos (by omega)]⟩))) (by omega) (fun w => by omega) hn
            · refine J.iload_n hG dX7_advances_151 rfl rfl ?_
              refine J.bipush hG dX7_advances_152 (by decide) (by decide) ?_
              refine J.icmp_ne hG 174 dX7_advances_154 rfl (fun h154 => ?_) (fun h154 => ?_)
              · refine J.iconst hG dX7_advances_174 (by decide) ?_
                refine J.putI hG ciX7 rfl 5 5 rfl (Nat.le_of_ble_eq_true rfl) rfl fl_X7_95 rfl rfl dX7_advances_175 ?_
                refine J.goto hG 239 dX7_advances_178 rfl ?_
                refine J.vret hG dX7_advances_239 ?_
                rw [hX]; dsimp only
                refine ⟨rfl, FrL_up hF _ _ (by decide), ?_⟩
                rw [hPx]
                exact AtT_of (t := 2) (v := v) (e := e) (by simp [up, h6]) hxn (by simp [up]) (by simp [up, h7]) (by simp [up, h4]) (Or.inl ⟨rfl, by rw [hc, if_neg (by omega)], by rw [hc, if_neg (by omega)]; omega⟩) (by omega) (fun w => by omega) hn
              · refine J.aload_n hG dX7_advances_157 rfl rfl ?_
                refine J.getI hG ciX7 rfl 4 4 rfl (Nat.le_of_ble_eq_true rfl) rfl fl_X7_85 dX7_advances_158 ?_
                refine J.aload_n hG dX7_advances_161 rfl rfl ?_
                refine J.getI hG ciX7 rfl 6 6 rfl (Nat.le_of_ble_eq_true rfl) rfl fl_X7_92 dX7_advances_162 ?_
                refine J.isub hG dX7_advances_165 (fun _ _ => (by omega)) ?_
                refine J.iconst hG dX7_advances_166 (by decide) ?_
                refine J.icmp_le hG 174 dX7_advances_167 rfl (fun h167 => ?_) (fun h167 => ?_)
                · refine J.iconst hG dX7_advances_174 (by decide) ?_
                  refine J.putI hG ciX7 rfl 5 5 rfl (Nat.le_of_ble_eq_true rfl) rfl fl_X7_95 rfl rfl dX7_advances_175 ?_
                  refine J.goto hG 239 dX7_advances_178 rfl ?_
                  refine J.vret hG dX7_advances_239 ?_
                  rw [hX]; dsimp only
                  refine ⟨rfl, FrL_up hF _ _ (by decide), ?_⟩
                  rw [hPx]
                  exact AtT_of (t := 2) (v := v) (e := e) (by simp [up, h6]) hxn (by simp [up]) (by simp [up, h7]) (by simp [up, h4]) (Or.inl ⟨rfl, by rw [hc, if_neg (by omega)], by rw [hc, if_neg (by omega)]; omega⟩) (by omega) (fun w => by omega) hn
                · refine J.iconst hG dX7_advances_170 (by decide) ?_
                  refine J.goto hG 175 dX7_advances_171 rfl ?_
                  refine J.putI hG ciX7 rfl 5 5 rfl (Nat.le_of_ble_eq_true rfl) rfl fl_X7_95 rfl rfl dX7_advances_175 ?_
                  refine J.goto hG 239 dX7_advances_178 rfl ?_
                  refine J.vret hG dX7_advances_239 ?_
                  rw [hX]; dsimp only
                  refine ⟨rfl, FrL_up hF _ _ (by decide), ?_⟩
                  rw [hPx]
                  exact AtT_of (t := 4) (v := v) (e := e) (by simp [up, h6]) hxn (by simp [up]) (by simp [up, h7]) (by simp [up, h4]) (Or.inr (Or.inr (Or.inr ⟨rfl, by rw [hc, if_pos (by omega)]⟩))) (by omega) (fun w => by omega) hn
          have lp7 : ∀ (k : Nat) (e v : Int) (ν : Mem), e + k = μ 0 3 → x ≤ e → FrL μ ν → ν 0 6 = x → ν 0 4 = e → ν 0 7 = v → (∀ j : Int, x ≤ j → j < e → dig (μ 1) (μ 0 3) j = 1) → vInv (μ 1) x e v → J TM X 2 71 [some (aR 0), some (aI (μ 1 x))] [] ν := by
            intro k
            induction k with
            | zero =>
              intro e v ν i0 i1 hF h6 h4 h7 hd hv
              have e3 : ν 0 3 = μ 0 3 := hF.2 3 (by omega)
              refine J.aload_n hG dX7_advances_71 rfl rfl ?_
              refine J.aload_n hG dX7_advances_72 rfl rfl ?_
              refine J.getI hG ciX7 rfl 4 4 rfl (Nat.le_of_ble_eq_true rfl) rfl fl_X7_85 dX7_advances_73 ?_
              refine J.callV hG (X7_letterAt_e _ _ (by omega)) ok_X7_letterAt ml_X7_88 rfl rfl rfl rfl (Nat.le_of_ble_eq_true rfl) ⟨Nat.le_of_ble_eq_true rfl, Nat.le_of_ble_eq_true rfl⟩ dX7_advances_76 rfl (fun r1 μ1 hp1 => ?_)
              obtain ⟨rfl, rfl⟩ := hp1
              refine J.bipush hG dX7_advances_79 (by decide) (by decide) ?_
              refine J.bipush hG dX7_advances_81 (by decide) (by decide) ?_
              refine J.callS hG (X7_in _ _ _ _) ok_X7_in ml_X7_78 rfl (Nat.le_of_ble_eq_true rfl) ⟨Nat.le_of_ble_eq_true rfl, Nat.le_of_ble_eq_true rfl⟩ dX7_advances_83 rfl (fun r1 μ1 hp1 => ?_)
              obtain ⟨rfl, rfl⟩ := hp1
              refine J.ifb_eq hG 141 dX7_advances_86 rfl (fun h86 => ?_) (fun h86 => absurd h86 (by omega))
              exact fin7 e v ν (by omega) (by omega) hF h6 h4 h7 hd (dig_n (by omega)) hv
            | succ k ih =>
              intro e v ν i0 i1 hF h6 h4 h7 hd hv
              have e3 : ν 0 3 = μ 0 3 := hF.2 3 (by omega)
              have e1 : ν 1 = μ 1 := hF.1 1 (by decide)
              have hl := hT.2 e (by omega) (by omega)
              have hv0 := hv.1
              refine J.aload_n hG dX7_advances_71 rfl rfl ?_
              refine J.aload_n hG dX7_advances_72 rfl rfl ?_
              refine J.getI hG ciX7 rfl 4 4 rfl (Nat.le_of_ble_eq_true rfl) rfl fl_X7_85 dX7_advances_73 ?_
              refine J.callV hG (X7_letterAt_i _ _ (by omega)) ok_X7_letterAt ml_X7_88 rfl rfl rfl rfl (Nat.le_of_ble_eq_true rfl) ⟨Nat.le_of_ble_eq_true rfl, Nat.le_of_ble_eq_true rfl⟩ dX7_advances_76 rfl (fun r1 μ1 hp1 => ?_)
              obtain ⟨rfl, rfl⟩ := hp1
              rw [e1, h4]
              refine J.bipush hG dX7_advances_79 (by decide) (by decide) ?_
              refine J.bipush hG dX7_advances_81 (by decide) (by decide) ?_
              refine J.callS hG (X7_in _ _ _ _) ok_X7_in ml_X7_78 rfl (Nat.le_of_ble_eq_true rfl) ⟨Nat.le_of_ble_eq_true rfl, Nat.le_of_ble_eq_true rfl⟩ dX7_advances_83 rfl (fun r1 μ1 hp1 => ?_)
              obtain ⟨rfl, rfl⟩ := hp1
              refine J.ifb_eq hG 141 dX7_advances_86 rfl (fun h86 => ?_) (fun h86 => ?_)
              · have hxe : x < e := by
                  rcases (show x = e ∨ x < e by omega) with q | q
                  · subst q; omega
                  · exact q
                exact fin7 e v ν hxe (by omega) hF h6 h4 h7 hd (dig_0 (by omega)) hv
              · refine J.aload_n hG dX7_advances_89 rfl rfl ?_
                refine J.aload_n hG dX7_advances_90 rfl rfl ?_
                refine J.getI hG ciX7 rfl 7 7 rfl (Nat.le_of_ble_eq_true rfl) rfl fl_X7_98 dX7_advances_91 ?_
                refine J.bipush hG dX7_advances_94 (by decide) (by decide) ?_
                refine J.icmp_le hG 106 dX7_advances_96 rfl (fun h96 => ?_) (fun h96 => ?_)
                · refine J.bipush hG dX7_advances_106 (by decide) (by decide) ?_
                  refine J.aload_n hG dX7_advances_108 rfl rfl ?_
                  refine J.getI hG ciX7 rfl 7 7 rfl (Nat.le_of_ble_eq_true rfl) rfl fl_X7_98 dX7_advances_109 ?_
                  refine J.imul hG dX7_advances_112 (fun _ _ => (by omega)) ?_
                  refine J.aload_n hG dX7_advances_113 rfl rfl ?_
                  refine J.aload_n hG dX7_advances_114 rfl rfl ?_
                  refine J.getI hG ciX7 rfl 4 4 rfl (Nat.le_of_ble_eq_true rfl) rfl fl_X7_85 dX7_advances_115 ?_
                  refine J.callV hG (X7_letterAt_i _ _ (by omega)) ok_X7_letterAt ml_X7_88 rfl rfl rfl rfl (Nat.le_of_ble_eq_true rfl) ⟨Nat.le_of_ble_eq_true rfl, Nat.le_of_ble_eq_true rfl⟩ dX7_advances_118 rfl (fun r1 μ1 hp1 => ?_)
                  obtain ⟨rfl, rfl⟩ := hp1
                  rw [e1, h4]
                  refine J.iadd hG dX7_advances_121 (fun _ _ => (by omega)) ?_
                  refine J.bipush hG dX7_advances_122 (by decide) (by decide) ?_
                  refine J.isub hG dX7_advances_124 (fun _ _ => (by omega)) ?_
                  refine J.putI hG ciX7 rfl 7 7 rfl (Nat.le_of_ble_eq_true rfl) rfl fl_X7_98 rfl rfl dX7_advances_125 ?_
                  refine J.aload_n hG dX7_advances_128 rfl rfl ?_
                  refine J.dup hG dX7_advances_129 (fun _ => rfl) ?_
                  refine J.getI hG ciX7 rfl 4 4 rfl (Nat.le_of_ble_eq_true rfl) rfl fl_X7_85 dX7_advances_130 ?_
                  refine J.iconst hG dX7_advances_133 (by decide) ?_
                  refine J.iadd hG dX7_advances_134 (fun _ _ => (by rw [up_ne _ (by decide)]; omega)) ?_
                  refine J.putI hG ciX7 rfl 4 4 rfl (Nat.le_of_ble_eq_true rfl) rfl fl_X7_85 rfl rfl dX7_advances_135 ?_
                  refine J.goto hG 71 dX7_advances_138 rfl ?_
                  have hd2 : ∀ j : Int, x ≤ j → j < e + 1 → dig (μ 1) (μ 0 3) j = 1 := fun j a b => by
                    rcases (show j < e ∨ j = e by omega) with q | q
                    · exact hd j a q
                    · rw [q]; exact dig_y (by omega) (by omega)
                  exact ih (e + 1) (10 * v + μ 1 e - 48) _ (by omega) (by omega) (FrL_up (FrL_up hF _ _ (by decide)) _ _ (by decide)) (by simp [up, h6]) (by simp [up, h4]) (by simp [up, h7]) hd2 (vInv_step i1 hd2 hv (by rw [if_neg (by omega)]))
                · refine J.aload_n hG dX7_advances_99 rfl rfl ?_
                  refine J.getI hG ciX7 rfl 7 7 rfl (Nat.le_of_ble_eq_true rfl) rfl fl_X7_98 dX7_advances_100 ?_
                  refine J.goto hG 125 dX7_advances_103 rfl ?_
                  refine J.putI hG ciX7 rfl 7 7 rfl (Nat.le_of_ble_eq_true rfl) rfl fl_X7_98 rfl rfl dX7_advances_125 ?_
                  refine J.aload_n hG dX7_advances_128 rfl rfl ?_
                  refine J.dup hG dX7_advances_129 (fun _ => rfl) ?_
                  refine J.getI hG ciX7 rfl 4 4 rfl (Nat.le_of_ble_eq_true rfl) rfl fl_X7_85 dX7_advances_130 ?_
                  refine J.iconst hG dX7_advances_133 (by decide) ?_
                  refine J.iadd hG dX7_advances_134 (fun _ _ => (by rw [up_ne _ (by decide)]; omega)) ?_
                  refine J.putI hG ciX7 rfl 4 4 rfl (Nat.le_of_ble_eq_true rfl) rfl fl_X7_85 rfl rfl dX7_advances_135 ?_
                  refine J.goto hG 71 dX7_advances_138 rfl ?_
                  have hd2 : ∀ j : Int, x ≤ j → j < e + 1 → dig (μ 1) (μ 0 3) j = 1 := fun j a b => by
                    rcases (show j < e ∨ j = e by omega) with q | q
                    · exact hd j a q
                    · rw [q]; exact dig_y (by omega) (by omega)
                  exact ih (e + 1) (v) _ (by omega) (by omega) (FrL_up (FrL_up hF _ _ (by decide)) _ _ (by decide)) (by simp [up, h6]) (by simp [up, h4]) (by simp [up, h7]) hd2 (vInv_step i1 hd2 hv (by rw [if_pos (by omega)]))
          exact lp7 (μ 0 3 - x).toNat x 0 _ (by omega) (Int.le_refl _) (FrL_up hF1 _ _ (by decide)) (by simp [up, f6]) (by simp [up, f4]) (by simp [up]) (fun j a b => by omega) ⟨by omega, fun _ => rfl, fun w => by omega, fun w => by omega, fun w => by omega⟩
      · refine J.aload_n hG dX7_advances_13 rfl rfl ?_
        refine J.dup hG dX7_advances_14 (fun _ => rfl) ?_
        refine J.getI hG ciX7 rfl 4 4 rfl (Nat.le_of_ble_eq_true rfl) rfl fl_X7_85 dX7_advances_15 ?_
        refine J.iconst hG dX7_advances_18 (by decide) ?_
        refine J.iadd hG dX7_advances_19 (fun _ _ => (by omega)) ?_
        refine J.putI hG ciX7 rfl 4 4 rfl (Nat.le_of_ble_eq_true rfl) rfl fl_X7_85 rfl rfl dX7_advances_20 ?_
        refine J.goto hG 0 dX7_advances_23 rfl ?_
        exact ih (x + 1) _ (by omega) (by omega) (FrL_up hF _ _ (by decide)) (by rw [up_self, h4]) (fun _ => by rw [show x + 1 - 1 = x by omega]; exact dig_0 (by omega)) (by rw [← hx]; exact (nst_no (by omega) (by unfold isSt; rw [if_neg (fun w => w.1 h10)]; decide)).symm)
  exact lp0 (μ 0 3 - μ 0 4).toNat (μ 0 4) μ (by omega) h4.1 ⟨fun _ _ => rfl, fun _ _ => rfl⟩ rfl hb rfl


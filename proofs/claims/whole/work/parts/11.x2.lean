set_option maxRecDepth 100000 in
set_option maxHeartbeats 4000000 in
theorem X6_unlawfulLives (μ : Mem) (hB : XB μ) : CT TX md_X6_unlawfulLives [aR 0] μ (fun rv μ1 => rv = some (aI (xBits μ)) ∧ μ = μ1) := by
  refine CT.of (Nat.le_of_ble_eq_true rfl) (by decide) rfl (Nat.le_of_ble_eq_true rfl) (fun X hG hX => ?_)
  have hG : G TX X RX6 cX6_unlawfulLives 3 5 122 (some .int) := hG
  show J TX X 3 0 [some (aR 0), none, none] [] μ
  have hB2 := hB
  obtain ⟨h1, h2, h3, h4, h5, h6⟩ := hB2
  have lp : ∀ (k : Nat) (l : Int) (a : Int), 0 ≤ l → l + k = μ 13 1 → (0 ≤ a ∧ a < p2 l) → (a + smf (fun l => if xU μ 0 l = -9 then 0 else p2 l) l k = xBits μ) → J TX X 3 4 [some (aR 0), some (aI a), some (aI l)] [] μ := by
    intro k
    induction k with
    | zero =>
      intro l a i0 i1 i2 i3
      refine J.iload_n hG dX6_unlawfulLives_4 rfl rfl ?_
      refine J.aload_n hG dX6_unlawfulLives_5 rfl rfl ?_
      refine J.getR hG ciX6 rfl 1 1 rfl (Nat.le_of_ble_eq_true rfl) rfl fl_X6_19 dX6_unlawfulLives_6 ?_
      refine J.getI hG ciX1 rfl 1 1 rfl (Nat.le_of_ble_eq_true rfl) rfl fl_X6_246 dX6_unlawfulLives_9 ?_
      refine J.icmp_ge hG 38 dX6_unlawfulLives_12 rfl (fun h12 => ?_) (fun h12 => absurd h12 (by omega))
      refine J.iload_n hG dX6_unlawfulLives_38 rfl rfl ?_
      refine J.iret hG dX6_unlawfulLives_39 ?_
      rw [hX]; dsimp only
      exact ⟨by rw [← i3]; simp only [smf, Int.add_zero], rfl⟩
    | succ k ih =>
      intro l a i0 i1 i2 i3
      rw [smf] at i3
      have hp := p2_succ l (by omega)
      have hq := p2_bound l
      refine J.iload_n hG dX6_unlawfulLives_4 rfl rfl ?_
      refine J.aload_n hG dX6_unlawfulLives_5 rfl rfl ?_
      refine J.getR hG ciX6 rfl 1 1 rfl (Nat.le_of_ble_eq_true rfl) rfl fl_X6_19 dX6_unlawfulLives_6 ?_
      refine J.getI hG ciX1 rfl 1 1 rfl (Nat.le_of_ble_eq_true rfl) rfl fl_X6_246 dX6_unlawfulLives_9 ?_
      refine J.icmp_ge hG 38 dX6_unlawfulLives_12 rfl (fun h12 => absurd h12 (by omega)) (fun h12 => ?_)
      refine J.aload_n hG dX6_unlawfulLives_15 rfl rfl ?_
      refine J.iload_n hG dX6_unlawfulLives_16 rfl rfl ?_
      refine J.iconst hG dX6_unlawfulLives_17 (by decide) ?_
      refine J.callV hG (X6_unlawfulScale _ hB _ _ (by omega) (by omega)) ok_X6_unlawfulScale ml_X6_181 rfl rfl rfl rfl (Nat.le_of_ble_eq_true rfl) ⟨Nat.le_of_ble_eq_true rfl, Nat.le_of_ble_eq_true rfl⟩ dX6_unlawfulLives_18 rfl (fun r1 μ1 hp1 => ?_)
      obtain ⟨rfl, rfl⟩ := hp1
      refine J.bipush hG dX6_unlawfulLives_21 (by decide) (by decide) ?_
      refine J.icmp_eq hG 32 dX6_unlawfulLives_23 rfl (fun h23 => ?_) (fun h23 => ?_)
      · refine J.iinc hG dX6_unlawfulLives_32 (Nat.le_of_ble_eq_true rfl) rfl (fun _ => (by omega)) ?_
        refine J.goto hG 4 dX6_unlawfulLives_35 rfl ?_
        exact ih (l + 1) _ (by omega) (by omega) (by omega) (by first | (rw [if_pos h23] at i3; omega) | (rw [if_neg h23] at i3; omega))
      · refine J.iload_n hG dX6_unlawfulLives_26 rfl rfl ?_
        refine J.iconst hG dX6_unlawfulLives_27 (by decide) ?_
        refine J.iload_n hG dX6_unlawfulLives_28 rfl rfl ?_
        refine J.ishl hG (p2 l) dX6_unlawfulLives_29 (fun _ _ => (by exact shl_p2 l (by omega))) ?_
        refine J.ior hG (a + p2 l) dX6_unlawfulLives_30 (fun _ _ => (by exact or_p2 a l (by omega) i2.1 i2.2)) ?_
        refine J.istore_n hG dX6_unlawfulLives_31 rfl (Nat.le_of_ble_eq_true rfl) ?_
        refine J.iinc hG dX6_unlawfulLives_32 (Nat.le_of_ble_eq_true rfl) rfl (fun _ => (by omega)) ?_
        refine J.goto hG 4 dX6_unlawfulLives_35 rfl ?_
        exact ih (l + 1) _ (by omega) (by omega) (by omega) (by first | (rw [if_pos h23] at i3; omega) | (rw [if_neg h23] at i3; omega))
  refine J.iconst hG dX6_unlawfulLives_0 (by decide) ?_
  refine J.istore_n hG dX6_unlawfulLives_1 rfl (Nat.le_of_ble_eq_true rfl) ?_
  refine J.iconst hG dX6_unlawfulLives_2 (by decide) ?_
  refine J.istore_n hG dX6_unlawfulLives_3 rfl (Nat.le_of_ble_eq_true rfl) ?_
  exact lp (μ 13 1).toNat 0 0 (Int.le_refl _) (by omega) (by decide) (by unfold xBits; omega)

set_option maxRecDepth 100000 in
set_option maxHeartbeats 4000000 in
theorem X6_scalesAt (μ : Mem) (hB : XB μ) (e l : Int) (hl : 0 ≤ l ∧ l < μ 13 1) : CT TX md_X6_scalesAt [aR 0, aI e, aI l] μ (fun rv μ1 => rv = some (aI (xC μ e l)) ∧ μ = μ1) := by
  refine CT.of (Nat.le_of_ble_eq_true rfl) (by decide) rfl (Nat.le_of_ble_eq_true rfl) (fun X hG hX => ?_)
  have hG : G TX X RX6 cX6_scalesAt 5 2 46 (some .int) := hG
  show J TX X 5 0 [some (aR 0), some (aI e), some (aI l), none, none] [] μ
  have hB2 := hB
  obtain ⟨h1, h2, h3, h4, h5, h6⟩ := hB2
  have lp : ∀ (k : Nat) (s : Int) (a : Int), 0 ≤ s → s + k = μ 13 0 → (0 ≤ a ∧ a ≤ s) → (a + smf (fun s => if EB (μ 19 s) (μ 20 s) (μ 14 s) (μ 18 (l * 4 + s)) = e then 1 else 0) s k = xC μ e l) → J TX X 5 5 [some (aR 0), some (aI e), some (aI l), some (aI a), some (aI s)] [] μ := by
    intro k
    induction k with
    | zero =>
      intro s a i0 i1 i2 i3
      refine J.iload hG dX6_scalesAt_5 rfl ?_
      refine J.aload_n hG dX6_scalesAt_7 rfl rfl ?_
      refine J.getR hG ciX6 rfl 1 1 rfl (Nat.le_of_ble_eq_true rfl) rfl fl_X6_19 dX6_scalesAt_8 ?_
      refine J.getI hG ciX1 rfl 0 0 rfl (Nat.le_of_ble_eq_true rfl) rfl fl_X6_222 dX6_scalesAt_11 ?_
      refine J.icmp_ge hG 50 dX6_scalesAt_14 rfl (fun h14 => ?_) (fun h14 => absurd h14 (by omega))
      refine J.iload_n hG dX6_scalesAt_50 rfl rfl ?_
      refine J.iret hG dX6_scalesAt_51 ?_
      rw [hX]; dsimp only
      exact ⟨by rw [← i3]; simp only [smf, Int.add_zero], rfl⟩
    | succ k ih =>
      intro s a i0 i1 i2 i3
      rw [smf] at i3
      have q5 := h5 s (by omega) (by omega)
      have q6 := h6 l s hl.1 hl.2 (by omega) (by omega)
      refine J.iload hG dX6_scalesAt_5 rfl ?_
      refine J.aload_n hG dX6_scalesAt_7 rfl rfl ?_
      refine J.getR hG ciX6 rfl 1 1 rfl (Nat.le_of_ble_eq_true rfl) rfl fl_X6_19 dX6_scalesAt_8 ?_
      refine J.getI hG ciX1 rfl 0 0 rfl (Nat.le_of_ble_eq_true rfl) rfl fl_X6_222 dX6_scalesAt_11 ?_
      refine J.icmp_ge hG 50 dX6_scalesAt_14 rfl (fun h14 => absurd h14 (by omega)) (fun h14 => ?_)
      refine J.aload_n hG dX6_scalesAt_17 rfl rfl ?_
      refine J.iload hG dX6_scalesAt_18 rfl ?_
      refine J.aload_n hG dX6_scalesAt_20 rfl rfl ?_
      refine J.getR hG ciX6 rfl 2 2 rfl (Nat.le_of_ble_eq_true rfl) rfl fl_X6_26 dX6_scalesAt_21 ?_
      refine J.getR hG ciX2 rfl 2 2 rfl (Nat.le_of_ble_eq_true rfl) rfl fl_X6_121 dX6_scalesAt_24 ?_
      refine J.iload_n hG dX6_scalesAt_27 rfl rfl ?_
      refine J.iload hG dX6_scalesAt_28 rfl ?_
      refine J.callS hG (X6_cell _ _ _ (by omega) (by omega)) ok_X6_cell ml_X6_124 rfl (Nat.le_of_ble_eq_true rfl) ⟨Nat.le_of_ble_eq_true rfl, Nat.le_of_ble_eq_true rfl⟩ dX6_scalesAt_30 rfl (fun r1 μ1 hp1 => ?_)
      obtain ⟨rfl, rfl⟩ := hp1
      refine J.iald hG rfl (by omega) (by omega) dX6_scalesAt_33 ?_
      refine J.callV hG (X6_endOf _ _ _ (by omega) (by omega)) ok_X6_endOf ml_X6_135 rfl rfl rfl rfl (Nat.le_of_ble_eq_true rfl) ⟨Nat.le_of_ble_eq_true rfl, Nat.le_of_ble_eq_true rfl⟩ dX6_scalesAt_34 rfl (fun r1 μ1 hp1 => ?_)
      obtain ⟨rfl, rfl⟩ := hp1
      refine J.iload_n hG dX6_scalesAt_37 rfl rfl ?_
      refine J.icmp_ne hG 44 dX6_scalesAt_38 rfl (fun h38 => ?_) (fun h38 => ?_)
      · refine J.iinc hG dX6_scalesAt_44 (Nat.le_of_ble_eq_true rfl) rfl (fun _ => (by omega)) ?_
        refine J.goto hG 5 dX6_scalesAt_47 rfl ?_
        exact ih (s + 1) _ (by omega) (by omega) (by omega) (by first | (rw [if_pos h38] at i3; omega) | (rw [if_neg h38] at i3; omega))
      · refine J.iinc hG dX6_scalesAt_41 (Nat.le_of_ble_eq_true rfl) rfl (fun _ => (by omega)) ?_
        refine J.iinc hG dX6_scalesAt_44 (Nat.le_of_ble_eq_true rfl) rfl (fun _ => (by omega)) ?_
        refine J.goto hG 5 dX6_scalesAt_47 rfl ?_
        exact ih (s + 1) _ (by omega) (by omega) (by omega) (by first | (rw [if_pos h38] at i3; omega) | (rw [if_neg h38] at i3; omega))
  refine J.iconst hG dX6_scalesAt_0 (by decide) ?_
  refine J.istore_n hG dX6_scalesAt_1 rfl (Nat.le_of_ble_eq_true rfl) ?_
  refine J.iconst hG dX6_scalesAt_2 (by decide) ?_
  refine J.istore hG dX6_scalesAt_3 (Nat.le_of_ble_eq_true rfl) ?_
  exact lp (μ 13 0).toNat 0 0 (Int.le_refl _) (by omega) (by omega) (by unfold xC; omega)

theorem xC_bound (μ : Mem) (e l : Int) (h : 0 ≤ μ 13 0 ∧ μ 13 0 ≤ 4) : 0 ≤ xC μ e l ∧ xC μ e l ≤ 4 := by
  have := smf_bound (f := fun s => if EB (μ 19 s) (μ 20 s) (μ 14 s) (μ 18 (l * 4 + s)) = e then 1 else 0) (a := 0) (b := 1) (μ 13 0).toNat 0 (fun i _ _ => by constructor <;> split <;> omega)
  unfold xC
  omega

set_option maxRecDepth 100000 in
set_option maxHeartbeats 4000000 in
theorem X6_inTheDrawer (μ : Mem) (hB : XB μ) : CT TX md_X6_inTheDrawer [aR 0] μ (fun rv μ1 => rv = some (aI (xDr μ)) ∧ μ = μ1) := by
  refine CT.of (Nat.le_of_ble_eq_true rfl) (by decide) rfl (Nat.le_of_ble_eq_true rfl) (fun X hG hX => ?_)
  have hG : G TX X RX6 cX6_inTheDrawer 3 3 70 (some .int) := hG
  show J TX X 3 0 [some (aR 0), none, none] [] μ
  have hB2 := hB
  obtain ⟨h1, h2, h3, h4, h5, h6⟩ := hB2
  have lp : ∀ (k : Nat) (l : Int) (a : Int), 0 ≤ l → l + k = μ 13 1 → (0 ≤ a ∧ a ≤ 4 * l) → (a + smf (fun l => xC μ 2 l) l k = xDr μ) → J TX X 3 4 [some (aR 0), some (aI a), some (aI l)] [] μ := by
    intro k
    induction k with
    | zero =>
      intro l a i0 i1 i2 i3
      refine J.iload_n hG dX6_inTheDrawer_4 rfl rfl ?_
      refine J.aload_n hG dX6_inTheDrawer_5 rfl rfl ?_
      refine J.getR hG ciX6 rfl 1 1 rfl (Nat.le_of_ble_eq_true rfl) rfl fl_X6_19 dX6_inTheDrawer_6 ?_
      refine J.getI hG ciX1 rfl 1 1 rfl (Nat.le_of_ble_eq_true rfl) rfl fl_X6_246 dX6_inTheDrawer_9 ?_
      refine J.icmp_ge hG 30 dX6_inTheDrawer_12 rfl (fun h12 => ?_) (fun h12 => absurd h12 (by omega))
      refine J.iload_n hG dX6_inTheDrawer_30 rfl rfl ?_
      refine J.iret hG dX6_inTheDrawer_31 ?_
      rw [hX]; dsimp only
      exact ⟨by rw [← i3]; simp only [smf, Int.add_zero], rfl⟩
    | succ k ih =>
      intro l a i0 i1 i2 i3
      rw [smf] at i3
      have hq := xC_bound μ 2 l h1
      refine J.iload_n hG dX6_inTheDrawer_4 rfl rfl ?_
      refine J.aload_n hG dX6_inTheDrawer_5 rfl rfl ?_
      refine J.getR hG ciX6 rfl 1 1 rfl (Nat.le_of_ble_eq_true rfl) rfl fl_X6_19 dX6_inTheDrawer_6 ?_
      refine J.getI hG ciX1 rfl 1 1 rfl (Nat.le_of_ble_eq_true rfl) rfl fl_X6_246 dX6_inTheDrawer_9 ?_
      refine J.icmp_ge hG 30 dX6_inTheDrawer_12 rfl (fun h12 => absurd h12 (by omega)) (fun h12 => ?_)
      refine J.iload_n hG dX6_inTheDrawer_15 rfl rfl ?_
      refine J.aload_n hG dX6_inTheDrawer_16 rfl rfl ?_
      refine J.iconst hG dX6_inTheDrawer_17 (by decide) ?_
      refine J.iload_n hG dX6_inTheDrawer_18 rfl rfl ?_
      refine J.callV hG (X6_scalesAt _ hB _ _ (by omega)) ok_X6_scalesAt ml_X6_266 rfl rfl rfl rfl (Nat.le_of_ble_eq_true rfl) ⟨Nat.le_of_ble_eq_true rfl, Nat.le_of_ble_eq_true rfl⟩ dX6_inTheDrawer_19 rfl (fun r1 μ1 hp1 => ?_)
      obtain ⟨rfl, rfl⟩ := hp1
      refine J.iadd hG dX6_inTheDrawer_22 (fun _ _ => (by omega)) ?_
      refine J.istore_n hG dX6_inTheDrawer_23 rfl (Nat.le_of_ble_eq_true rfl) ?_
      refine J.iinc hG dX6_inTheDrawer_24 (Nat.le_of_ble_eq_true rfl) rfl (fun _ => (by omega)) ?_
      refine J.goto hG 4 dX6_inTheDrawer_27 rfl ?_
      exact ih (l + 1) _ (by omega) (by omega) (by omega) (by omega)
  refine J.iconst hG dX6_inTheDrawer_0 (by decide) ?_
  refine J.istore_n hG dX6_inTheDrawer_1 rfl (Nat.le_of_ble_eq_true rfl) ?_
  refine J.iconst hG dX6_inTheDrawer_2 (by decide) ?_
  refine J.istore_n hG dX6_inTheDrawer_3 rfl (Nat.le_of_ble_eq_true rfl) ?_
  exact lp (μ 13 1).toNat 0 0 (Int.le_refl _) (by omega) (by omega) (by unfold xDr; omega)

set_option maxRecDepth 100000 in
set_option maxHeartbeats 4000000 in
theorem X6_isUnlawfulBy (μ : Mem) (hB : XB μ) (l n s v t : Int) (hn : 0 ≤ n ∧ n ≤ 1000) (hl : 0 ≤ l ∧ l < μ 13 1) (hs : 0 ≤ s ∧ s < μ 13 0) : CT TX md_X6_isUnlawfulBy [aR 0, aI l, aI n, aI s, aI v, aI t] μ (fun rv μ1 => rv = some (aI (if ¬ xUB μ l n s v t = -9 then 1 else 0)) ∧ μ = μ1) := by
  refine CT.of (Nat.le_of_ble_eq_true rfl) (by decide) rfl (Nat.le_of_ble_eq_true rfl) (fun X hG hX => ?_)
  have hG : G TX X RX6 cX6_isUnlawfulBy 9 3 76 (some .boolean) := hG
  show J TX X 9 0 [some (aR 0), some (aI l), some (aI n), some (aI s), some (aI v), some (aI t), none, none, none] [] μ
  have hB2 := hB
  obtain ⟨h1, h2, h3, h4, h5, h6⟩ := hB2
  have lp : ∀ (k : Nat) (c : Int), 0 ≤ c → c + k = μ 13 0 → (fs3 (fun c => if c = s then EB v t (μ 14 s) (xV μ n l c) else xE μ n l c) k c = xUB μ l n s v t) → J TX X 9 3 [some (aR 0), some (aI l), some (aI n), some (aI s), some (aI v), some (aI t), some (aI c), none, none] [] μ := by
    intro k
    induction k with
    | zero =>
      intro c  i0 i1 i2
      refine J.iload hG dX6_isUnlawfulBy_3 rfl ?_
      refine J.aload_n hG dX6_isUnlawfulBy_5 rfl rfl ?_
      refine J.getR hG ciX6 rfl 1 1 rfl (Nat.le_of_ble_eq_true rfl) rfl fl_X6_19 dX6_isUnlawfulBy_6 ?_
      refine J.getI hG ciX1 rfl 0 0 rfl (Nat.le_of_ble_eq_true rfl) rfl fl_X6_222 dX6_isUnlawfulBy_9 ?_
      refine J.icmp_ge hG 76 dX6_isUnlawfulBy_12 rfl (fun h12 => ?_) (fun h12 => absurd h12 (by omega))
      refine J.iconst hG dX6_isUnlawfulBy_76 (by decide) ?_
      refine J.zret hG (by first | exact Or.inl rfl | exact Or.inr rfl | assumption | (split <;> first | exact Or.inl rfl | exact Or.inr rfl)) dX6_isUnlawfulBy_77 ?_
      rw [hX]; dsimp only
      exact ⟨by rw [← i2]; rfl, rfl⟩
    | succ k ih =>
      intro c  i0 i1 i2
      rw [fs3] at i2
      have q5 := h5 c (by omega) (by omega)
      have q6 := cl_bound (r := μ 14 c) (x := μ 18 (l * 4 + c) + n * μ 15 (l * 4 + c)) (by omega)
      have q7 : xV μ n l c = cl (μ 14 c) (μ 18 (l * 4 + c) + n * μ 15 (l * 4 + c)) := rfl
      refine J.iload hG dX6_isUnlawfulBy_3 rfl ?_
      refine J.aload_n hG dX6_isUnlawfulBy_5 rfl rfl ?_
      refine J.getR hG ciX6 rfl 1 1 rfl (Nat.le_of_ble_eq_true rfl) rfl fl_X6_19 dX6_isUnlawfulBy_6 ?_
      refine J.getI hG ciX1 rfl 0 0 rfl (Nat.le_of_ble_eq_true rfl) rfl fl_X6_222 dX6_isUnlawfulBy_9 ?_
      refine J.icmp_ge hG 76 dX6_isUnlawfulBy_12 rfl (fun h12 => absurd h12 (by omega)) (fun h12 => ?_)
      refine J.aload_n hG dX6_isUnlawfulBy_15 rfl rfl ?_
      refine J.iload_n hG dX6_isUnlawfulBy_16 rfl rfl ?_
      refine J.iload_n hG dX6_isUnlawfulBy_17 rfl rfl ?_
      refine J.iload hG dX6_isUnlawfulBy_18 rfl ?_
      refine J.callV hG (X6_valueBehind _ hB _ _ _ hn hl (by omega)) ok_X6_valueBehind ml_X6_263 rfl rfl rfl rfl (Nat.le_of_ble_eq_true rfl) ⟨Nat.le_of_ble_eq_true rfl, Nat.le_of_ble_eq_true rfl⟩ dX6_isUnlawfulBy_20 rfl (fun r1 μ1 hp1 => ?_)
      obtain ⟨rfl, rfl⟩ := hp1
      refine J.istore hG dX6_isUnlawfulBy_23 (Nat.le_of_ble_eq_true rfl) ?_
      refine J.iload hG dX6_isUnlawfulBy_25 rfl ?_
      refine J.iload_n hG dX6_isUnlawfulBy_27 rfl rfl ?_
      refine J.icmp_ne hG 52 dX6_isUnlawfulBy_28 rfl (fun h28 => ?_) (fun h28 => ?_)
      · refine J.aload_n hG dX6_isUnlawfulBy_52 rfl rfl ?_
        refine J.iload hG dX6_isUnlawfulBy_53 rfl ?_
        refine J.iload hG dX6_isUnlawfulBy_55 rfl ?_
        refine J.callV hG (X6_endOf _ _ _ (by omega) (by omega)) ok_X6_endOf ml_X6_135 rfl rfl rfl rfl (Nat.le_of_ble_eq_true rfl) ⟨Nat.le_of_ble_eq_true rfl, Nat.le_of_ble_eq_true rfl⟩ dX6_isUnlawfulBy_57 rfl (fun r1 μ1 hp1 => ?_)
        obtain ⟨rfl, rfl⟩ := hp1
        refine J.istore hG dX6_isUnlawfulBy_60 (Nat.le_of_ble_eq_true rfl) ?_
        refine J.iload hG dX6_isUnlawfulBy_62 rfl ?_
        refine J.iconst hG dX6_isUnlawfulBy_64 (by decide) ?_
        refine J.icmp_ne hG 70 dX6_isUnlawfulBy_65 rfl (fun h65 => ?_) (fun h65 => ?_)
        · refine J.iinc hG dX6_isUnlawfulBy_70 (Nat.le_of_ble_eq_true rfl) rfl (fun _ => (by omega)) ?_
          refine J.goto hG 3 dX6_isUnlawfulBy_73 rfl ?_
          refine J.drop 8 (J.drop 7 (ih (c + 1) (by omega) (by omega) ?_))
          first | (rw [if_pos h28] at i2; subst h28; rw [if_neg h65] at i2; exact i2) | (rw [if_neg h28, if_neg (show ¬ xE μ n l c = 3 from h65)] at i2; exact i2)
        · refine J.iconst hG dX6_isUnlawfulBy_68 (by decide) ?_
          refine J.zret hG (by first | exact Or.inl rfl | exact Or.inr rfl | assumption | (split <;> first | exact Or.inl rfl | exact Or.inr rfl)) dX6_isUnlawfulBy_69 ?_
          rw [hX]; dsimp only
          exact ⟨by congr 2; rw [if_pos]; rw [← i2]; (try subst h28); first | (rw [if_pos rfl, if_pos h65]; omega) | (rw [if_neg h28, if_pos (show xE μ n l c = 3 from h65)]; omega), rfl⟩
      · refine J.iload hG dX6_isUnlawfulBy_31 rfl ?_
        refine J.iload hG dX6_isUnlawfulBy_33 rfl ?_
        refine J.aload_n hG dX6_isUnlawfulBy_35 rfl rfl ?_
        refine J.getR hG ciX6 rfl 1 1 rfl (Nat.le_of_ble_eq_true rfl) rfl fl_X6_19 dX6_isUnlawfulBy_36 ?_
        refine J.getR hG ciX1 rfl 4 4 rfl (Nat.le_of_ble_eq_true rfl) rfl fl_X6_112 dX6_isUnlawfulBy_39 ?_
        refine J.iload_n hG dX6_isUnlawfulBy_42 rfl rfl ?_
        refine J.iald hG rfl (by omega) (by omega) dX6_isUnlawfulBy_43 ?_
        refine J.iload hG dX6_isUnlawfulBy_44 rfl ?_
        refine J.callS hG (X6_endBy _ _ _ _ _ (by omega)) ok_X6_endBy ml_X6_260 rfl (Nat.le_of_ble_eq_true rfl) ⟨Nat.le_of_ble_eq_true rfl, Nat.le_of_ble_eq_true rfl⟩ dX6_isUnlawfulBy_46 rfl (fun r1 μ1 hp1 => ?_)
        obtain ⟨rfl, rfl⟩ := hp1
        refine J.goto hG 60 dX6_isUnlawfulBy_49 rfl ?_
        refine J.istore hG dX6_isUnlawfulBy_60 (Nat.le_of_ble_eq_true rfl) ?_
        refine J.iload hG dX6_isUnlawfulBy_62 rfl ?_
        refine J.iconst hG dX6_isUnlawfulBy_64 (by decide) ?_
        refine J.icmp_ne hG 70 dX6_isUnlawfulBy_65 rfl (fun h65 => ?_) (fun h65 => ?_)
        · refine J.iinc hG dX6_isUnlawfulBy_70 (Nat.le_of_ble_eq_true rfl) rfl (fun _ => (by omega)) ?_
          refine J.goto hG 3 dX6_isUnlawfulBy_73 rfl ?_
          refine J.drop 8 (J.drop 7 (ih (c + 1) (by omega) (by omega) ?_))
          first | (rw [if_pos h28] at i2; subst h28; rw [if_neg h65] at i2; exact i2) | (rw [if_neg h28, if_neg (show ¬ xE μ n l c = 3 from h65)] at i2; exact i2)
        · refine J.iconst hG dX6_isUnlawfulBy_68 (by decide) ?_
          refine J.zret hG (by first | exact Or.inl rfl | exact Or.inr rfl | assumption | (split <;> first | exact Or.inl rfl | exact Or.inr rfl)) dX6_isUnlawfulBy_69 ?_
          rw [hX]; dsimp only
          exact ⟨by congr 2; rw [if_pos]; rw [← i2]; (try subst h28); first | (rw [if_pos rfl, if_pos h65]; omega) | (rw [if_neg h28, if_pos (show xE μ n l c = 3 from h65)]; omega), rfl⟩
  refine J.iconst hG dX6_isUnlawfulBy_0 (by decide) ?_
  refine J.istore hG dX6_isUnlawfulBy_1 (Nat.le_of_ble_eq_true rfl) ?_
  exact lp (μ 13 0).toNat 0 (Int.le_refl _) (by omega) rfl

set_option maxRecDepth 100000 in
set_option maxHeartbeats 4000000 in
theorem X6_unlawfulYears (μ : Mem) (hB : XB μ) (s v t : Int) (hs : 0 ≤ s ∧ s < μ 13 0) : CT TX md_X6_unlawfulYears [aR 0, aI s, aI v, aI t] μ (fun rv μ1 => rv = some (aI (xUY μ s v t)) ∧ μ = μ1) := by
  refine CT.of (Nat.le_of_ble_eq_true rfl) (by decide) rfl (Nat.le_of_ble_eq_true rfl) (fun X hG hX => ?_)
  have hG : G TX X RX6 cX6_unlawfulYears 7 4 104 (some .int) := hG
  show J TX X 7 0 [some (aR 0), some (aI s), some (aI v), some (aI t), none, none, none] [] μ
  have hB2 := hB
  obtain ⟨h1, h2, h3, h4, h5, h6⟩ := hB2
  have lp : ∀ (k : Nat) (l : Int) (a : Int), 0 ≤ l → l + k = μ 13 1 → (0 ≤ a ∧ a ≤ 21 * l) → (a + smf (fun l => smf (fun n => if xUB μ l n s v t = -9 then 0 else 1) 0 21) l k = xUY μ s v t) → J TX X 7 6 [some (aR 0), some (aI s), some (aI v), some (aI t), some (aI a), some (aI l), none] [] μ := by
    intro k
    induction k with
    | zero =>
      intro l a i0 i1 i2 i3
      refine J.iload hG dX6_unlawfulYears_6 rfl ?_
      refine J.aload_n hG dX6_unlawfulYears_8 rfl rfl ?_
      refine J.getR hG ciX6 rfl 1 1 rfl (Nat.le_of_ble_eq_true rfl) rfl fl_X6_19 dX6_unlawfulYears_9 ?_
      refine J.getI hG ciX1 rfl 1 1 rfl (Nat.le_of_ble_eq_true rfl) rfl fl_X6_246 dX6_unlawfulYears_12 ?_
      refine J.icmp_ge hG 57 dX6_unlawfulYears_15 rfl (fun h15 => ?_) (fun h15 => absurd h15 (by omega))
      refine J.iload hG dX6_unlawfulYears_57 rfl ?_
      refine J.iret hG dX6_unlawfulYears_59 ?_
      rw [hX]; dsimp only
      exact ⟨by rw [← i3]; simp only [smf, Int.add_zero], rfl⟩
    | succ k ih =>
      intro l a i0 i1 i2 i3
      rw [smf] at i3
      have ih0 := ih
      clear ih
      have lp2 : ∀ (k : Nat) (n : Int) (a2 : Int), 0 ≤ n → n + k = 21 → (0 ≤ a2 ∧ a2 ≤ 21 * l + n) → (a2 + smf (fun n => if xUB μ l n s v t = -9 then 0 else 1) n k = a + smf (fun n => if xUB μ l n s v t = -9 then 0 else 1) 0 21) → J TX X 7 21 [some (aR 0), some (aI s), some (aI v), some (aI t), some (aI a2), some (aI l), some (aI n)] [] μ := by
        intro k
        induction k with
        | zero =>
          intro n a2 i8 i9 j2 j3
          refine J.iload hG dX6_unlawfulYears_21 rfl ?_
          refine J.bipush hG dX6_unlawfulYears_23 (by decide) (by decide) ?_
          refine J.icmp_gt hG 51 dX6_unlawfulYears_25 rfl (fun h25 => ?_) (fun h25 => absurd h25 (by omega))
          refine J.iinc hG dX6_unlawfulYears_51 (Nat.le_of_ble_eq_true rfl) rfl (fun _ => (by omega)) ?_
          refine J.goto hG 6 dX6_unlawfulYears_54 rfl ?_
          simp only [smf, Int.add_zero] at j3
          exact J.drop 6 (ih0 (l + 1) a2 (by omega) (by omega) (by omega) (by simp only [smf, Int.add_zero] at i3 j3 ⊢; omega))
        | succ k ih =>
          intro n a2 i8 i9 j2 j3
          rw [smf] at j3
          refine J.iload hG dX6_unlawfulYears_21 rfl ?_
          refine J.bipush hG dX6_unlawfulYears_23 (by decide) (by decide) ?_
          refine J.icmp_gt hG 51 dX6_unlawfulYears_25 rfl (fun h25 => absurd h25 (by omega)) (fun h25 => ?_)
          refine J.aload_n hG dX6_unlawfulYears_28 rfl rfl ?_
          refine J.iload hG dX6_unlawfulYears_29 rfl ?_
          refine J.iload hG dX6_unlawfulYears_31 rfl ?_
          refine J.iload_n hG dX6_unlawfulYears_33 rfl rfl ?_
          refine J.iload_n hG dX6_unlawfulYears_34 rfl rfl ?_
          refine J.iload_n hG dX6_unlawfulYears_35 rfl rfl ?_
          refine J.callV hG (X6_isUnlawfulBy _ hB _ _ _ _ _ (by omega) (by omega) hs) ok_X6_isUnlawfulBy ml_X6_269 rfl rfl rfl rfl (Nat.le_of_ble_eq_true rfl) ⟨Nat.le_of_ble_eq_true rfl, Nat.le_of_ble_eq_true rfl⟩ dX6_unlawfulYears_36 rfl (fun r1 μ1 hp1 => ?_)
          obtain ⟨rfl, rfl⟩ := hp1
          refine J.ifb_eq hG 45 dX6_unlawfulYears_39 rfl (fun h39 => ?_) (fun h39 => ?_)
          · refine J.iinc hG dX6_unlawfulYears_45 (Nat.le_of_ble_eq_true rfl) rfl (fun _ => (by omega)) ?_
            refine J.goto hG 21 dX6_unlawfulYears_48 rfl ?_
            exact ih (n + 1) _ (by omega) (by omega) (by omega) (by first | (rw [if_pos (by omega)] at j3; omega) | (rw [if_neg h39] at j3; omega))
          · refine J.iinc hG dX6_unlawfulYears_42 (Nat.le_of_ble_eq_true rfl) rfl (fun _ => (by omega)) ?_
            refine J.iinc hG dX6_unlawfulYears_45 (Nat.le_of_ble_eq_true rfl) rfl (fun _ => (by omega)) ?_
            refine J.goto hG 21 dX6_unlawfulYears_48 rfl ?_
            exact ih (n + 1) _ (by omega) (by omega) (by omega) (by first | (rw [if_pos (by omega)] at j3; omega) | (rw [if_neg h39] at j3; omega))
      refine J.iload hG dX6_unlawfulYears_6 rfl ?_
      refine J.aload_n hG dX6_unlawfulYears_8 rfl rfl ?_
      refine J.getR hG ciX6 rfl 1 1 rfl (Nat.le_of_ble_eq_true rfl) rfl fl_X6_19 dX6_unlawfulYears_9 ?_
      refine J.getI hG ciX1 rfl 1 1 rfl (Nat.le_of_ble_eq_true rfl) rfl fl_X6_246 dX6_unlawfulYears_12 ?_
      refine J.icmp_ge hG 57 dX6_unlawfulYears_15 rfl (fun h15 => absurd h15 (by omega)) (fun h15 => ?_)
      refine J.iconst hG dX6_unlawfulYears_18 (by decide) ?_
      refine J.istore hG dX6_unlawfulYears_19 (Nat.le_of_ble_eq_true rfl) ?_
      exact lp2 21 0 a (Int.le_refl _) (by omega) (by omega) (by omega)
  refine J.iconst hG dX6_unlawfulYears_0 (by decide) ?_
  refine J.istore hG dX6_unlawfulYears_1 (Nat.le_of_ble_eq_true rfl) ?_
  refine J.iconst hG dX6_unlawfulYears_3 (by decide) ?_
  refine J.istore hG dX6_unlawfulYears_4 (Nat.le_of_ble_eq_true rfl) ?_
  exact lp (μ 13 1).toNat 0 0 (Int.le_refl _) (by omega) (by omega) (by unfold xUY; omega)

set_option maxRecDepth 100000 in
set_option maxHeartbeats 4000000 in
theorem X6_endChangesByJump (μ : Mem) (hB : XB μ) (s t : Int) (hs : 0 ≤ s ∧ s < μ 13 0) : CT TX md_X6_endChangesByJump [aR 0, aI s, aI t] μ (fun rv μ1 => rv = some (aI (xEC μ s t)) ∧ μ = μ1) := by
  refine CT.of (Nat.le_of_ble_eq_true rfl) (by decide) rfl (Nat.le_of_ble_eq_true rfl) (fun X hG hX => ?_)
  have hG : G TX X RX6 cX6_endChangesByJump 6 3 76 (some .int) := hG
  show J TX X 6 0 [some (aR 0), some (aI s), some (aI t), none, none, none] [] μ
  have hB2 := hB
  obtain ⟨h1, h2, h3, h4, h5, h6⟩ := hB2
  have lp : ∀ (k : Nat) (l : Int) (a : Int), 0 ≤ l → l + k = μ 13 1 → (0 ≤ a ∧ a ≤ 20 * l) → (a + smf (fun l => smf (fun n => if xV μ n l s < t ↔ xV μ (n + 1) l s < t then 0 else 1) 0 20) l k = xEC μ s t) → J TX X 6 5 [some (aR 0), some (aI s), some (aI t), some (aI a), some (aI l), none] [] μ := by
    intro k
    induction k with
    | zero =>
      intro l a i0 i1 i2 i3
      refine J.iload hG dX6_endChangesByJump_5 rfl ?_
      refine J.aload_n hG dX6_endChangesByJump_7 rfl rfl ?_
      refine J.getR hG ciX6 rfl 1 1 rfl (Nat.le_of_ble_eq_true rfl) rfl fl_X6_19 dX6_endChangesByJump_8 ?_
      refine J.getI hG ciX1 rfl 1 1 rfl (Nat.le_of_ble_eq_true rfl) rfl fl_X6_246 dX6_endChangesByJump_11 ?_
      refine J.icmp_ge hG 83 dX6_endChangesByJump_14 rfl (fun h14 => ?_) (fun h14 => absurd h14 (by omega))
      refine J.iload_n hG dX6_endChangesByJump_83 rfl rfl ?_
      refine J.iret hG dX6_endChangesByJump_84 ?_
      rw [hX]; dsimp only
      exact ⟨by rw [← i3]; simp only [smf, Int.add_zero], rfl⟩
    | succ k ih =>
      intro l a i0 i1 i2 i3
      rw [smf] at i3
      have ih0 := ih
      clear ih
      have lp2 : ∀ (k : Nat) (n : Int) (a2 : Int), 0 ≤ n → n + k = 20 → (0 ≤ a2 ∧ a2 ≤ 20 * l + n) → (a2 + smf (fun n => if xV μ n l s < t ↔ xV μ (n + 1) l s < t then 0 else 1) n k = a + smf (fun n => if xV μ n l s < t ↔ xV μ (n + 1) l s < t then 0 else 1) 0 20) → J TX X 6 20 [some (aR 0), some (aI s), some (aI t), some (aI a2), some (aI l), some (aI n)] [] μ := by
        intro k
        induction k with
        | zero =>
          intro n a2 i8 i9 j2 j3
          refine J.iload hG dX6_endChangesByJump_20 rfl ?_
          refine J.bipush hG dX6_endChangesByJump_22 (by decide) (by decide) ?_
          refine J.icmp_ge hG 77 dX6_endChangesByJump_24 rfl (fun h24 => ?_) (fun h24 => absurd h24 (by omega))
          refine J.iinc hG dX6_endChangesByJump_77 (Nat.le_of_ble_eq_true rfl) rfl (fun _ => (by omega)) ?_
          refine J.goto hG 5 dX6_endChangesByJump_80 rfl ?_
          simp only [smf, Int.add_zero] at j3
          exact J.drop 5 (ih0 (l + 1) a2 (by omega) (by omega) (by omega) (by simp only [smf, Int.add_zero] at i3 j3 ⊢; omega))
        | succ k ih =>
          intro n a2 i8 i9 j2 j3
          rw [smf] at j3
          refine J.iload hG dX6_endChangesByJump_20 rfl ?_
          refine J.bipush hG dX6_endChangesByJump_22 (by decide) (by decide) ?_
          refine J.icmp_ge hG 77 dX6_endChangesByJump_24 rfl (fun h24 => absurd h24 (by omega)) (fun h24 => ?_)
          refine J.aload_n hG dX6_endChangesByJump_27 rfl rfl ?_
          refine J.iload hG dX6_endChangesByJump_28 rfl ?_
          refine J.iload hG dX6_endChangesByJump_30 rfl ?_
          refine J.iload_n hG dX6_endChangesByJump_32 rfl rfl ?_
          refine J.callV hG (X6_valueBehind _ hB _ _ _ (by omega) (by omega) hs) ok_X6_valueBehind ml_X6_263 rfl rfl rfl rfl (Nat.le_of_ble_eq_true rfl) ⟨Nat.le_of_ble_eq_true rfl, Nat.le_of_ble_eq_true rfl⟩ dX6_endChangesByJump_33 rfl (fun r1 μ1 hp1 => ?_)
          obtain ⟨rfl, rfl⟩ := hp1
          refine J.iload_n hG dX6_endChangesByJump_36 rfl rfl ?_
          refine J.icmp_ge hG 44 dX6_endChangesByJump_37 rfl (fun h37 => ?_) (fun h37 => ?_)
          · refine J.iconst hG dX6_endChangesByJump_44 (by decide) ?_
            refine J.aload_n hG dX6_endChangesByJump_45 rfl rfl ?_
            refine J.iload hG dX6_endChangesByJump_46 rfl ?_
            refine J.iconst hG dX6_endChangesByJump_48 (by decide) ?_
            refine J.iadd hG dX6_endChangesByJump_49 (fun _ _ => (by omega)) ?_
            refine J.iload hG dX6_endChangesByJump_50 rfl ?_
            refine J.iload_n hG dX6_endChangesByJump_52 rfl rfl ?_
            refine J.callV hG (X6_valueBehind _ hB _ _ _ (by omega) (by omega) hs) ok_X6_valueBehind ml_X6_263 rfl rfl rfl rfl (Nat.le_of_ble_eq_true rfl) ⟨Nat.le_of_ble_eq_true rfl, Nat.le_of_ble_eq_true rfl⟩ dX6_endChangesByJump_53 rfl (fun r1 μ1 hp1 => ?_)
            obtain ⟨rfl, rfl⟩ := hp1
            refine J.iload_n hG dX6_endChangesByJump_56 rfl rfl ?_
            refine J.icmp_ge hG 64 dX6_endChangesByJump_57 rfl (fun h57 => ?_) (fun h57 => ?_)
            · refine J.iconst hG dX6_endChangesByJump_64 (by decide) ?_
              refine J.icmp_eq hG 71 dX6_endChangesByJump_65 rfl (fun h65 => ?_) (fun h65 => absurd h65 (by omega))
              refine J.iinc hG dX6_endChangesByJump_71 (Nat.le_of_ble_eq_true rfl) rfl (fun _ => (by omega)) ?_
              refine J.goto hG 20 dX6_endChangesByJump_74 rfl ?_
              exact ih (n + 1) _ (by omega) (by omega) (by omega) (by first | (rw [if_pos (by omega)] at j3; omega) | (rw [if_neg (by omega)] at j3; omega))
            · refine J.iconst hG dX6_endChangesByJump_60 (by decide) ?_
              refine J.goto hG 65 dX6_endChangesByJump_61 rfl ?_
              refine J.icmp_eq hG 71 dX6_endChangesByJump_65 rfl (fun h65 => absurd h65 (by omega)) (fun h65 => ?_)
              refine J.iinc hG dX6_endChangesByJump_68 (Nat.le_of_ble_eq_true rfl) rfl (fun _ => (by omega)) ?_
              refine J.iinc hG dX6_endChangesByJump_71 (Nat.le_of_ble_eq_true rfl) rfl (fun _ => (by omega)) ?_
              refine J.goto hG 20 dX6_endChangesByJump_74 rfl ?_
              exact ih (n + 1) _ (by omega) (by omega) (by omega) (by first | (rw [if_pos (by omega)] at j3; omega) | (rw [if_neg (by omega)] at j3; omega))
          · refine J.iconst hG dX6_endChangesByJump_40 (by decide) ?_
            refine J.goto hG 45 dX6_endChangesByJump_41 rfl ?_
            refine J.aload_n hG dX6_endChangesByJump_45 rfl rfl ?_
            refine J.iload hG dX6_endChangesByJump_46 rfl ?_
            refine J.iconst hG dX6_endChangesByJump_48 (by decide) ?_
            refine J.iadd hG dX6_endChangesByJump_49 (fun _ _ => (by omega)) ?_
            refine J.iload hG dX6_endChangesByJump_50 rfl ?_
            refine J.iload_n hG dX6_endChangesByJump_52 rfl rfl ?_
            refine J.callV hG (X6_valueBehind _ hB _ _ _ (by omega) (by omega) hs) ok_X6_valueBehind ml_X6_263 rfl rfl rfl rfl (Nat.le_of_ble_eq_true rfl) ⟨Nat.le_of_ble_eq_true rfl, Nat.le_of_ble_eq_true rfl⟩ dX6_endChangesByJump_53 rfl (fun r1 μ1 hp1 => ?_)
            obtain ⟨rfl, rfl⟩ := hp1
            refine J.iload_n hG dX6_endChangesByJump_56 rfl rfl ?_
            refine J.icmp_ge hG 64 dX6_endChangesByJump_57 rfl (fun h57 => ?_) (fun h57 => ?_)
            · refine J.iconst hG dX6_endChangesByJump_64 (by decide) ?_
              refine J.icmp_eq hG 71 dX6_endChangesByJump_65 rfl (fun h65 => absurd h65 (by omega)) (fun h65 => ?_)
              refine J.iinc hG dX6_endChangesByJump_68 (Nat.le_of_ble_eq_true rfl) rfl (fun _ => (by omega)) ?_
              refine J.iinc hG dX6_endChangesByJump_71 (Nat.le_of_ble_eq_true rfl) rfl (fun _ => (by omega)) ?_
              refine J.goto hG 20 dX6_endChangesByJump_74 rfl ?_
              exact ih (n + 1) _ (by omega) (by omega) (by omega) (by first | (rw [if_pos (by omega)] at j3; omega) | (rw [if_neg (by omega)] at j3; omega))
            · refine J.iconst hG dX6_endChangesByJump_60 (by decide) ?_
              refine J.goto hG 65 dX6_endChangesByJump_61 rfl ?_
              refine J.icmp_eq hG 71 dX6_endChangesByJump_65 rfl (fun h65 => ?_) (fun h65 => absurd h65 (by omega))
              refine J.iinc hG dX6_endChangesByJump_71 (Nat.le_of_ble_eq_true rfl) rfl (fun _ => (by omega)) ?_
              refine J.goto hG 20 dX6_endChangesByJump_74 rfl ?_
              exact ih (n + 1) _ (by omega) (by omega) (by omega) (by first | (rw [if_pos (by omega)] at j3; omega) | (rw [if_neg (by omega)] at j3; omega))
      refine J.iload hG dX6_endChangesByJump_5 rfl ?_
      refine J.aload_n hG dX6_endChangesByJump_7 rfl rfl ?_
      refine J.getR hG ciX6 rfl 1 1 rfl (Nat.le_of_ble_eq_true rfl) rfl fl_X6_19 dX6_endChangesByJump_8 ?_
      refine J.getI hG ciX1 rfl 1 1 rfl (Nat.le_of_ble_eq_true rfl) rfl fl_X6_246 dX6_endChangesByJump_11 ?_
      refine J.icmp_ge hG 83 dX6_endChangesByJump_14 rfl (fun h14 => absurd h14 (by omega)) (fun h14 => ?_)
      refine J.iconst hG dX6_endChangesByJump_17 (by decide) ?_
      refine J.istore hG dX6_endChangesByJump_18 (Nat.le_of_ble_eq_true rfl) ?_
      exact lp2 20 0 a (Int.le_refl _) (by omega) (by omega) (by omega)
  refine J.iconst hG dX6_endChangesByJump_0 (by decide) ?_
  refine J.istore_n hG dX6_endChangesByJump_1 rfl (Nat.le_of_ble_eq_true rfl) ?_
  refine J.iconst hG dX6_endChangesByJump_2 (by decide) ?_
  refine J.istore hG dX6_endChangesByJump_3 (Nat.le_of_ble_eq_true rfl) ?_
  exact lp (μ 13 1).toNat 0 0 (Int.le_refl _) (by omega) (by omega) (by unfold xEC; omega)

set_option maxRecDepth 100000 in
set_option maxHeartbeats 4000000 in
theorem X6_areOpposed (μ : Mem) (hB : XB μ) (a b : Int) (ha : 0 ≤ a ∧ a < μ 13 0) (hb : 0 ≤ b ∧ b < μ 13 0) : CT TX md_X6_areOpposed [aR 0, aI a, aI b] μ (fun rv μ1 => rv = some (aI (if ¬ xOp μ a b = -9 then 1 else 0)) ∧ μ = μ1) := by
  refine CT.of (Nat.le_of_ble_eq_true rfl) (by decide) rfl (Nat.le_of_ble_eq_true rfl) (fun X hG hX => ?_)
  have hG : G TX X RX6 cX6_areOpposed 6 2 46 (some .boolean) := hG
  show J TX X 6 0 [some (aR 0), some (aI a), some (aI b), none, none, none] [] μ
  have hB2 := hB
  obtain ⟨h1, h2, h3, h4, h5, h6⟩ := hB2
  have q5 := h5 a ha.1 ha.2
  have q7 := h5 b hb.1 hb.2
  refine J.aload_n hG dX6_areOpposed_0 rfl rfl ?_
  refine J.getR hG ciX6 rfl 1 1 rfl (Nat.le_of_ble_eq_true rfl) rfl fl_X6_19 dX6_areOpposed_1 ?_
  refine J.getR hG ciX1 rfl 4 4 rfl (Nat.le_of_ble_eq_true rfl) rfl fl_X6_112 dX6_areOpposed_4 ?_
  refine J.iload_n hG dX6_areOpposed_7 rfl rfl ?_
  refine J.iald hG rfl (by omega) (by omega) dX6_areOpposed_8 ?_
  refine J.aload_n hG dX6_areOpposed_9 rfl rfl ?_
  refine J.getR hG ciX6 rfl 1 1 rfl (Nat.le_of_ble_eq_true rfl) rfl fl_X6_19 dX6_areOpposed_10 ?_
  refine J.getR hG ciX1 rfl 4 4 rfl (Nat.le_of_ble_eq_true rfl) rfl fl_X6_112 dX6_areOpposed_13 ?_
  refine J.iload_n hG dX6_areOpposed_16 rfl rfl ?_
  refine J.iald hG rfl (by omega) (by omega) dX6_areOpposed_17 ?_
  refine J.icmp_eq hG 23 dX6_areOpposed_18 rfl (fun h18 => ?_) (fun h18 => ?_)
  · refine J.iconst hG dX6_areOpposed_23 (by decide) ?_
    refine J.istore_n hG dX6_areOpposed_24 rfl (Nat.le_of_ble_eq_true rfl) ?_
    have lp : ∀ (k : Nat) (v : Int), 0 ≤ v → v + k = μ 14 a + 1 → (fs3 (xO μ a b) k v = fs3 (xO μ a b) (μ 14 a + 1).toNat 0) → J TX X 6 25 [some (aR 0), some (aI a), some (aI b), some (aI v), none, none] [] μ := by
      intro k
      induction k with
      | zero =>
        intro v  i0 i1 i2
        refine J.iload_n hG dX6_areOpposed_25 rfl rfl ?_
        refine J.aload_n hG dX6_areOpposed_26 rfl rfl ?_
        refine J.getR hG ciX6 rfl 1 1 rfl (Nat.le_of_ble_eq_true rfl) rfl fl_X6_19 dX6_areOpposed_27 ?_
        refine J.getR hG ciX1 rfl 4 4 rfl (Nat.le_of_ble_eq_true rfl) rfl fl_X6_112 dX6_areOpposed_30 ?_
        refine J.iload_n hG dX6_areOpposed_33 rfl rfl ?_
        refine J.iald hG rfl (by omega) (by omega) dX6_areOpposed_34 ?_
        refine J.icmp_gt hG 84 dX6_areOpposed_35 rfl (fun h35 => ?_) (fun h35 => absurd h35 (by omega))
        refine J.iconst hG dX6_areOpposed_84 (by decide) ?_
        refine J.zret hG (by first | exact Or.inl rfl | exact Or.inr rfl | assumption | (split <;> first | exact Or.inl rfl | exact Or.inr rfl)) dX6_areOpposed_85 ?_
        rw [hX]; dsimp only
        exact ⟨by congr 2; rw [xOp, if_pos h18, ← i2]; rfl, rfl⟩
      | succ k ih =>
        intro v  i0 i1 i2
        rw [fs3] at i2
        refine J.iload_n hG dX6_areOpposed_25 rfl rfl ?_
        refine J.aload_n hG dX6_areOpposed_26 rfl rfl ?_
        refine J.getR hG ciX6 rfl 1 1 rfl (Nat.le_of_ble_eq_true rfl) rfl fl_X6_19 dX6_areOpposed_27 ?_
        refine J.getR hG ciX1 rfl 4 4 rfl (Nat.le_of_ble_eq_true rfl) rfl fl_X6_112 dX6_areOpposed_30 ?_
        refine J.iload_n hG dX6_areOpposed_33 rfl rfl ?_
        refine J.iald hG rfl (by omega) (by omega) dX6_areOpposed_34 ?_
        refine J.icmp_gt hG 84 dX6_areOpposed_35 rfl (fun h35 => absurd h35 (by omega)) (fun h35 => ?_)
        refine J.aload_n hG dX6_areOpposed_38 rfl rfl ?_
        refine J.iload_n hG dX6_areOpposed_39 rfl rfl ?_
        refine J.iload_n hG dX6_areOpposed_40 rfl rfl ?_
        refine J.callV hG (X6_endOf _ _ _ (by omega) (by omega)) ok_X6_endOf ml_X6_135 rfl rfl rfl rfl (Nat.le_of_ble_eq_true rfl) ⟨Nat.le_of_ble_eq_true rfl, Nat.le_of_ble_eq_true rfl⟩ dX6_areOpposed_41 rfl (fun r1 μ1 hp1 => ?_)
        obtain ⟨rfl, rfl⟩ := hp1
        refine J.istore hG dX6_areOpposed_44 (Nat.le_of_ble_eq_true rfl) ?_
        refine J.aload_n hG dX6_areOpposed_46 rfl rfl ?_
        refine J.iload_n hG dX6_areOpposed_47 rfl rfl ?_
        refine J.iload_n hG dX6_areOpposed_48 rfl rfl ?_
        refine J.callV hG (X6_endOf _ _ _ (by omega) (by omega)) ok_X6_endOf ml_X6_135 rfl rfl rfl rfl (Nat.le_of_ble_eq_true rfl) ⟨Nat.le_of_ble_eq_true rfl, Nat.le_of_ble_eq_true rfl⟩ dX6_areOpposed_49 rfl (fun r1 μ1 hp1 => ?_)
        obtain ⟨rfl, rfl⟩ := hp1
        refine J.istore hG dX6_areOpposed_52 (Nat.le_of_ble_eq_true rfl) ?_
        refine J.iload hG dX6_areOpposed_54 rfl ?_
        refine J.if_ne hG 65 dX6_areOpposed_56 rfl (fun h56 => ?_) (fun h56 => ?_)
        · refine J.iload hG dX6_areOpposed_65 rfl ?_
          refine J.iconst hG dX6_areOpposed_67 (by decide) ?_
          refine J.icmp_ne hG 78 dX6_areOpposed_68 rfl (fun h68 => ?_) (fun h68 => ?_)
          · refine J.iinc hG dX6_areOpposed_78 (Nat.le_of_ble_eq_true rfl) rfl (fun _ => (by omega)) ?_
            refine J.goto hG 25 dX6_areOpposed_81 rfl ?_
            have e : ¬ xO μ a b v = 3 := by unfold xO; rw [if_neg (by omega)]; omega
            rw [if_neg e] at i2
            exact J.drop 5 (J.drop 4 (ih (v + 1) (by omega) (by omega) i2))
          · refine J.iload hG dX6_areOpposed_71 rfl ?_
            refine J.if_ne hG 78 dX6_areOpposed_73 rfl (fun h73 => ?_) (fun h73 => ?_)
            · refine J.iinc hG dX6_areOpposed_78 (Nat.le_of_ble_eq_true rfl) rfl (fun _ => (by omega)) ?_
              refine J.goto hG 25 dX6_areOpposed_81 rfl ?_
              have e : ¬ xO μ a b v = 3 := by unfold xO; rw [if_neg (by omega)]; omega
              rw [if_neg e] at i2
              exact J.drop 5 (J.drop 4 (ih (v + 1) (by omega) (by omega) i2))
            · refine J.iconst hG dX6_areOpposed_76 (by decide) ?_
              refine J.zret hG (by first | exact Or.inl rfl | exact Or.inr rfl | assumption | (split <;> first | exact Or.inl rfl | exact Or.inr rfl)) dX6_areOpposed_77 ?_
              rw [hX]; dsimp only
              have e : xO μ a b v = 3 := by unfold xO; rw [if_pos (by omega)]
              rw [if_pos e] at i2
              exact ⟨by congr 2; rw [xOp, if_pos h18, ← i2, if_pos (by omega)], rfl⟩
        · refine J.iload hG dX6_areOpposed_59 rfl ?_
          refine J.iconst hG dX6_areOpposed_61 (by decide) ?_
          refine J.icmp_eq hG 76 dX6_areOpposed_62 rfl (fun h62 => ?_) (fun h62 => ?_)
          · refine J.iconst hG dX6_areOpposed_76 (by decide) ?_
            refine J.zret hG (by first | exact Or.inl rfl | exact Or.inr rfl | assumption | (split <;> first | exact Or.inl rfl | exact Or.inr rfl)) dX6_areOpposed_77 ?_
            rw [hX]; dsimp only
            have e : xO μ a b v = 3 := by unfold xO; rw [if_pos (by omega)]
            rw [if_pos e] at i2
            exact ⟨by congr 2; rw [xOp, if_pos h18, ← i2, if_pos (by omega)], rfl⟩
          · refine J.iload hG dX6_areOpposed_65 rfl ?_
            refine J.iconst hG dX6_areOpposed_67 (by decide) ?_
            refine J.icmp_ne hG 78 dX6_areOpposed_68 rfl (fun h68 => ?_) (fun h68 => ?_)
            · refine J.iinc hG dX6_areOpposed_78 (Nat.le_of_ble_eq_true rfl) rfl (fun _ => (by omega)) ?_
              refine J.goto hG 25 dX6_areOpposed_81 rfl ?_
              have e : ¬ xO μ a b v = 3 := by unfold xO; rw [if_neg (by omega)]; omega
              rw [if_neg e] at i2
              exact J.drop 5 (J.drop 4 (ih (v + 1) (by omega) (by omega) i2))
            · refine J.iload hG dX6_areOpposed_71 rfl ?_
              refine J.if_ne hG 78 dX6_areOpposed_73 rfl (fun h73 => ?_) (fun h73 => ?_)
              · refine J.iinc hG dX6_areOpposed_78 (Nat.le_of_ble_eq_true rfl) rfl (fun _ => (by omega)) ?_
                refine J.goto hG 25 dX6_areOpposed_81 rfl ?_
                have e : ¬ xO μ a b v = 3 := by unfold xO; rw [if_neg (by omega)]; omega
                rw [if_neg e] at i2
                exact J.drop 5 (J.drop 4 (ih (v + 1) (by omega) (by omega) i2))
              · refine J.iconst hG dX6_areOpposed_76 (by decide) ?_
                refine J.zret hG (by first | exact Or.inl rfl | exact Or.inr rfl | assumption | (split <;> first | exact Or.inl rfl | exact Or.inr rfl)) dX6_areOpposed_77 ?_
                rw [hX]; dsimp only
                have e : xO μ a b v = 3 := by unfold xO; rw [if_pos (by omega)]
                rw [if_pos e] at i2
                exact ⟨by congr 2; rw [xOp, if_pos h18, ← i2, if_pos (by omega)], rfl⟩
    exact lp (μ 14 a + 1).toNat 0 (Int.le_refl _) (by omega) rfl
  · refine J.iconst hG dX6_areOpposed_21 (by decide) ?_
    refine J.zret hG (by first | exact Or.inl rfl | exact Or.inr rfl | assumption | (split <;> first | exact Or.inl rfl | exact Or.inr rfl)) dX6_areOpposed_22 ?_
    rw [hX]; dsimp only
    exact ⟨by congr 2; rw [xOp, if_neg h18]; rfl, rfl⟩


/-- how many ends become another one in the year that follows y years from now -/
def xJc (μ : Mem) (y : Int) : Int := smf (fun l => smf (fun s => if xE μ y l s = xE μ (y + 1) l s then 0 else 1) 0 (μ 13 0).toNat) 0 (μ 13 1).toNat
/-- one year gone by -/
def XGo (μ μ1 : Mem) : Prop := (∀ c : Nat, c ≠ 17 → c ≠ 18 → μ1 c = μ c) ∧ μ1 17 0 = μ 17 0 + 1 ∧ μ1 17 1 = μ 17 1 + xJc μ 0 ∧ ∀ l s : Int, 0 ≤ l → l < μ 13 1 → 0 ≤ s → s < μ 13 0 → μ1 18 (l * 4 + s) = xV μ 1 l s
def IG (μ : Mem) (l s : Int) (ν : Mem) : Prop := (∀ c : Nat, c ≠ 17 → c ≠ 18 → ν c = μ c) ∧ ν 17 0 = μ 17 0 ∧ ∀ l' s' : Int, 0 ≤ l' → l' < μ 13 1 → 0 ≤ s' → s' < μ 13 0 → ν 18 (l' * 4 + s') = if l' < l ∨ (l' = l ∧ s' < s) then xV μ 1 l' s' else μ 18 (l' * 4 + s')
theorem IG_j {μ ν : Mem} {l s : Int} (x : Int) (h : IG μ l s ν) : IG μ l s (up ν 17 1 x) := ⟨fun c h1 h2 => by rw [up_cell _ _ _ h1]; exact h.1 c h1 h2, by rw [up_ne _ (by decide)]; exact h.2.1, fun l' s' a b c d => by rw [up_cell _ _ _ (by decide)]; exact h.2.2 l' s' a b c d⟩
theorem IG_v {μ ν : Mem} {l s : Int} (h : IG μ l s ν) (hn : μ 13 0 ≤ 4) (hs : 0 ≤ s ∧ s < μ 13 0) : IG μ l (s + 1) (up ν 18 (l * 4 + s) (xV μ 1 l s)) := ⟨fun c h1 h2 => by rw [up_cell _ _ _ h2]; exact h.1 c h1 h2, by rw [up_cell _ _ _ (by decide)]; exact h.2.1, fun l' s' a b c d => by
  by_cases q : l' = l ∧ s' = s
  · rw [q.1, q.2, up_self, if_pos (by omega)]
  · rw [up_ne _ (fun z => q (by omega)), h.2.2 l' s' a b c d]
    by_cases q2 : l' < l ∨ (l' = l ∧ s' < s)
    · rw [if_pos q2, if_pos (by omega)]
    · rw [if_neg q2, if_neg (by omega)]⟩
theorem IG_next {μ ν : Mem} {l : Int} (h : IG μ l (μ 13 0) ν) : IG μ (l + 1) 0 ν := ⟨h.1, h.2.1, fun l' s' a b c d => by
  rw [h.2.2 l' s' a b c d]
  by_cases q2 : l' < l ∨ (l' = l ∧ s' < μ 13 0)
  · rw [if_pos q2, if_pos (by omega)]
  · rw [if_neg q2, if_neg (by omega)]⟩
theorem xV_bound {μ : Mem} (hB : XB μ) (n l s : Int) (hs : 0 ≤ s ∧ s < μ 13 0) : 0 ≤ xV μ n l s ∧ xV μ n l s ≤ μ 14 s := by
  have := hB.2.2.2.2.1 s hs.1 hs.2
  exact cl_bound (by omega)
theorem IG_XB {μ ν : Mem} {l s : Int} (hB : XB μ) (h : IG μ l s ν) : XB ν := by
  have e13 := h.1 13 (by decide) (by decide)
  have e14 := h.1 14 (by decide) (by decide)
  have e15 := h.1 15 (by decide) (by decide)
  unfold XB
  rw [e13, e14, e15]
  have hB2 := hB
  obtain ⟨h1, h2, h3, h4, h5, h6⟩ := hB2
  refine ⟨h1, h2, h3, h4, h5, fun l' s' a b c d => ?_⟩
  have q := h6 l' s' a b c d
  have v := xV_bound hB 1 l' s' ⟨c, d⟩
  rw [h.2.2 l' s' a b c d]
  split
  · exact ⟨q.1, q.2.1, v.1, v.2⟩
  · exact q
theorem IG_V {μ ν : Mem} {l s : Int} (h : IG μ l s ν) (n : Int) (hl : 0 ≤ l ∧ l < μ 13 1) (hs : 0 ≤ s ∧ s < μ 13 0) : xV ν n l s = xV μ n l s := by
  unfold xV
  rw [h.1 14 (by decide) (by decide), h.1 15 (by decide) (by decide), h.2.2 l s hl.1 hl.2 hs.1 hs.2, if_neg (by omega)]
theorem IG_E {μ ν : Mem} {l s : Int} (h : IG μ l s ν) (n : Int) (hl : 0 ≤ l ∧ l < μ 13 1) (hs : 0 ≤ s ∧ s < μ 13 0) : xE ν n l s = xE μ n l s := by
  unfold xE
  rw [h.1 19 (by decide) (by decide), h.1 20 (by decide) (by decide), h.1 14 (by decide) (by decide), IG_V h n hl hs]
theorem xJc_bound (μ : Mem) (y : Int) (h1 : 0 ≤ μ 13 0 ∧ μ 13 0 ≤ 4) (h2 : 0 ≤ μ 13 1 ∧ μ 13 1 ≤ 4) : 0 ≤ xJc μ y ∧ xJc μ y ≤ 16 := by
  have := smf_bound (f := fun l => smf (fun s => if xE μ y l s = xE μ (y + 1) l s then 0 else 1) 0 (μ 13 0).toNat) (a := 0) (b := 4) (μ 13 1).toNat 0 (fun i _ _ => by
    have := smf_bound (f := fun s => if xE μ y i s = xE μ (y + 1) i s then 0 else 1) (a := 0) (b := 1) (μ 13 0).toNat 0 (fun i _ _ => by constructor <;> split <;> omega)
    omega)
  unfold xJc
  omega

set_option maxRecDepth 100000 in
set_option maxHeartbeats 4000000 in
theorem X6_goByOneYear (μ : Mem) (hB : XB μ) (hy : 0 ≤ μ 17 0 ∧ μ 17 0 ≤ 1000000) (hj : 0 ≤ μ 17 1 ∧ μ 17 1 ≤ 1000000) : CT TX md_X6_goByOneYear [aR 0] μ (fun rv μ1 => rv = none ∧ XGo μ μ1) := by
  refine CT.of (Nat.le_of_ble_eq_true rfl) (by decide) rfl (Nat.le_of_ble_eq_true rfl) (fun X hG hX => ?_)
  have hG : G TX X RX6 cX6_goByOneYear 3 4 99 none := hG
  show J TX X 3 0 [some (aR 0), none, none] [] μ
  have hB2 := hB
  obtain ⟨h1, h2, h3, h4, h5, h6⟩ := hB2
  have lp : ∀ (k : Nat) (l : Int) (ν : Mem), 0 ≤ l → l + k = μ 13 1 → IG μ l 0 ν → (ν 17 1 + smf (fun l => smf (fun s => if xE μ 0 l s = xE μ (0 + 1) l s then 0 else 1) 0 (μ 13 0).toNat) l k = μ 17 1 + xJc μ 0 ∧ 0 ≤ ν 17 1 ∧ ν 17 1 ≤ 1000000 + 16 * l) → J TX X 3 2 [some (aR 0), some (aI l), none] [] ν := by
    intro k
    induction k with
    | zero =>
      intro l ν i0 i1 hI i2
      have e13 : ν 13 = μ 13 := hI.1 13 (by decide) (by decide)
      have e0 : ν 13 0 = μ 13 0 := by rw [e13]
      have e1 : ν 13 1 = μ 13 1 := by rw [e13]
      have q0 := hI.2.1
      refine J.iload_n hG dX6_goByOneYear_2 rfl rfl ?_
      refine J.aload_n hG dX6_goByOneYear_3 rfl rfl ?_
      refine J.getR hG ciX6 rfl 1 1 rfl (Nat.le_of_ble_eq_true rfl) rfl fl_X6_19 dX6_goByOneYear_4 ?_
      refine J.getI hG ciX1 rfl 1 1 rfl (Nat.le_of_ble_eq_true rfl) rfl fl_X6_246 dX6_goByOneYear_7 ?_
      refine J.icmp_ge hG 88 dX6_goByOneYear_10 rfl (fun h10 => ?_) (fun h10 => absurd h10 (by omega))
      refine J.aload_n hG dX6_goByOneYear_88 rfl rfl ?_
      refine J.getR hG ciX6 rfl 2 2 rfl (Nat.le_of_ble_eq_true rfl) rfl fl_X6_26 dX6_goByOneYear_89 ?_
      refine J.dup hG dX6_goByOneYear_92 (fun _ => rfl) ?_
      refine J.getI hG ciX2 rfl 0 0 rfl (Nat.le_of_ble_eq_true rfl) rfl fl_X6_144 dX6_goByOneYear_93 ?_
      refine J.iconst hG dX6_goByOneYear_96 (by decide) ?_
      refine J.iadd hG dX6_goByOneYear_97 (fun _ _ => (by rw [q0]; omega)) ?_
      refine J.putI hG ciX2 rfl 0 0 rfl (Nat.le_of_ble_eq_true rfl) rfl fl_X6_144 rfl rfl dX6_goByOneYear_98 ?_
      refine J.vret hG dX6_goByOneYear_101 ?_
      rw [hX]; dsimp only
      simp only [smf] at i2
      exact ⟨rfl, fun c a b => by rw [up_cell _ _ _ a]; exact hI.1 c a b, by rw [up_self, q0], by rw [up_ne _ (by decide)]; omega, fun l' s' a b c d => by rw [up_cell _ _ _ (by decide), hI.2.2 l' s' a b c d, if_pos (by omega)]⟩
    | succ k ih =>
      intro l ν i0 i1 hI i2
      rw [smf] at i2
      have lp2 : ∀ (k2 : Nat) (s : Int) (ν : Mem), 0 ≤ s → s + k2 = μ 13 0 → IG μ l s ν → (ν 17 1 + smf (fun s => if xE μ 0 l s = xE μ (0 + 1) l s then 0 else 1) s k2 + smf (fun l => smf (fun s => if xE μ 0 l s = xE μ (0 + 1) l s then 0 else 1) 0 (μ 13 0).toNat) (l + 1) k = μ 17 1 + xJc μ 0 ∧ 0 ≤ ν 17 1 ∧ ν 17 1 ≤ 1000000 + 16 * l + 4 * s) → J TX X 3 15 [some (aR 0), some (aI l), some (aI s)] [] ν := by
        intro k2
        induction k2 with
        | zero =>
          intro s ν i8 i9 hJ j2
          have e13 : ν 13 = μ 13 := hJ.1 13 (by decide) (by decide)
          have e0 : ν 13 0 = μ 13 0 := by rw [e13]
          have e1 : ν 13 1 = μ 13 1 := by rw [e13]
          refine J.iload_n hG dX6_goByOneYear_15 rfl rfl ?_
          refine J.aload_n hG dX6_goByOneYear_16 rfl rfl ?_
          refine J.getR hG ciX6 rfl 1 1 rfl (Nat.le_of_ble_eq_true rfl) rfl fl_X6_19 dX6_goByOneYear_17 ?_
          refine J.getI hG ciX1 rfl 0 0 rfl (Nat.le_of_ble_eq_true rfl) rfl fl_X6_222 dX6_goByOneYear_20 ?_
          refine J.icmp_ge hG 82 dX6_goByOneYear_23 rfl (fun h23 => ?_) (fun h23 => absurd h23 (by omega))
          refine J.iinc hG dX6_goByOneYear_82 (Nat.le_of_ble_eq_true rfl) rfl (fun _ => (by omega)) ?_
          refine J.goto hG 2 dX6_goByOneYear_85 rfl ?_
          simp only [smf, Int.add_zero] at j2
          have hs4 : s = μ 13 0 := by omega
          subst hs4
          exact J.drop 2 (ih (l + 1) ν (by omega) (by omega) (IG_next hJ) (by refine ⟨?_, by omega, by omega⟩; have := j2.1; omega))
        | succ k2 ih2 =>
          intro s ν i8 i9 hJ j2
          rw [smf] at j2
          have e13 : ν 13 = μ 13 := hJ.1 13 (by decide) (by decide)
          have e0 : ν 13 0 = μ 13 0 := by rw [e13]
          have e1 : ν 13 1 = μ 13 1 := by rw [e13]
          have t0 := IG_E hJ 0 (by omega) (by omega)
          have t1 := IG_E hJ 1 (by omega) (by omega)
          have tv := IG_V hJ 1 (by omega) (by omega)
          have tv2 := IG_V (IG_j (ν 17 1 + 1) hJ) 1 (by omega) (by omega)
          refine J.iload_n hG dX6_goByOneYear_15 rfl rfl ?_
          refine J.aload_n hG dX6_goByOneYear_16 rfl rfl ?_
          refine J.getR hG ciX6 rfl 1 1 rfl (Nat.le_of_ble_eq_true rfl) rfl fl_X6_19 dX6_goByOneYear_17 ?_
          refine J.getI hG ciX1 rfl 0 0 rfl (Nat.le_of_ble_eq_true rfl) rfl fl_X6_222 dX6_goByOneYear_20 ?_
          refine J.icmp_ge hG 82 dX6_goByOneYear_23 rfl (fun h23 => absurd h23 (by omega)) (fun h23 => ?_)
          refine J.aload_n hG dX6_goByOneYear_26 rfl rfl ?_
          refine J.iconst hG dX6_goByOneYear_27 (by decide) ?_
          refine J.iload_n hG dX6_goByOneYear_28 rfl rfl ?_
          refine J.iload_n hG dX6_goByOneYear_29 rfl rfl ?_
          refine J.callV hG (X6_endBehind _ (by first | exact IG_XB hB hJ) _ _ _ (by omega) (by omega) (by omega)) ok_X6_endBehind ml_X6_131 rfl rfl rfl rfl (Nat.le_of_ble_eq_true rfl) ⟨Nat.le_of_ble_eq_true rfl, Nat.le_of_ble_eq_true rfl⟩ dX6_goByOneYear_30 rfl (fun r1 μ1 hp1 => ?_)
          obtain ⟨rfl, rfl⟩ := hp1
          refine J.aload_n hG dX6_goByOneYear_33 rfl rfl ?_
          refine J.iconst hG dX6_goByOneYear_34 (by decide) ?_
          refine J.iload_n hG dX6_goByOneYear_35 rfl rfl ?_
          refine J.iload_n hG dX6_goByOneYear_36 rfl rfl ?_
          refine J.callV hG (X6_endBehind _ (by first | exact IG_XB hB hJ) _ _ _ (by omega) (by omega) (by omega)) ok_X6_endBehind ml_X6_131 rfl rfl rfl rfl (Nat.le_of_ble_eq_true rfl) ⟨Nat.le_of_ble_eq_true rfl, Nat.le_of_ble_eq_true rfl⟩ dX6_goByOneYear_37 rfl (fun r1 μ1 hp1 => ?_)
          obtain ⟨rfl, rfl⟩ := hp1
          refine J.icmp_eq hG 56 dX6_goByOneYear_40 rfl (fun h40 => ?_) (fun h40 => ?_)
          · refine J.aload_n hG dX6_goByOneYear_56 rfl rfl ?_
            refine J.getR hG ciX6 rfl 2 2 rfl (Nat.le_of_ble_eq_true rfl) rfl fl_X6_26 dX6_goByOneYear_57 ?_
            refine J.getR hG ciX2 rfl 2 2 rfl (Nat.le_of_ble_eq_true rfl) rfl fl_X6_121 dX6_goByOneYear_60 ?_
            refine J.iload_n hG dX6_goByOneYear_63 rfl rfl ?_
            refine J.iload_n hG dX6_goByOneYear_64 rfl rfl ?_
            refine J.callS hG (X6_cell _ _ _ (by omega) (by omega)) ok_X6_cell ml_X6_124 rfl (Nat.le_of_ble_eq_true rfl) ⟨Nat.le_of_ble_eq_true rfl, Nat.le_of_ble_eq_true rfl⟩ dX6_goByOneYear_65 rfl (fun r1 μ1 hp1 => ?_)
            obtain ⟨rfl, rfl⟩ := hp1
            refine J.aload_n hG dX6_goByOneYear_68 rfl rfl ?_
            refine J.iconst hG dX6_goByOneYear_69 (by decide) ?_
            refine J.iload_n hG dX6_goByOneYear_70 rfl rfl ?_
            refine J.iload_n hG dX6_goByOneYear_71 rfl rfl ?_
            refine J.callV hG (X6_valueBehind _ (by first | exact IG_XB hB hJ | exact IG_XB hB (IG_j _ hJ)) _ _ _ (by omega) (by first | omega | (rw [up_cell _ _ _ (by decide)]; omega)) (by first | omega | (rw [up_cell _ _ _ (by decide)]; omega))) ok_X6_valueBehind ml_X6_263 rfl rfl rfl rfl (Nat.le_of_ble_eq_true rfl) ⟨Nat.le_of_ble_eq_true rfl, Nat.le_of_ble_eq_true rfl⟩ dX6_goByOneYear_72 rfl (fun r1 μ1 hp1 => ?_)
            obtain ⟨rfl, rfl⟩ := hp1
            refine J.iast hG rfl (by omega) (by omega) dX6_goByOneYear_75 ?_
            refine J.iinc hG dX6_goByOneYear_76 (Nat.le_of_ble_eq_true rfl) rfl (fun _ => (by omega)) ?_
            refine J.goto hG 15 dX6_goByOneYear_79 rfl ?_
            first
              | (rw [tv]; refine ih2 (s + 1) _ (by omega) (by omega) (IG_v hJ (by omega) (by omega)) ?_; rw [up_cell _ _ _ (by decide)]; rw [if_pos (by rw [← t0, h40, t1]; rfl)] at j2; omega)
              | (rw [tv2]; refine ih2 (s + 1) _ (by omega) (by omega) (IG_v (IG_j _ hJ) (by omega) (by omega)) ?_; rw [up_cell _ _ _ (by decide), up_self]; rw [if_neg (fun q => h40 (by rw [t0, t1]; exact q))] at j2; omega)
          · refine J.aload_n hG dX6_goByOneYear_43 rfl rfl ?_
            refine J.getR hG ciX6 rfl 2 2 rfl (Nat.le_of_ble_eq_true rfl) rfl fl_X6_26 dX6_goByOneYear_44 ?_
            refine J.dup hG dX6_goByOneYear_47 (fun _ => rfl) ?_
            refine J.getI hG ciX2 rfl 1 1 rfl (Nat.le_of_ble_eq_true rfl) rfl fl_X6_178 dX6_goByOneYear_48 ?_
            refine J.iconst hG dX6_goByOneYear_51 (by decide) ?_
            refine J.iadd hG dX6_goByOneYear_52 (fun _ _ => (by omega)) ?_
            refine J.putI hG ciX2 rfl 1 1 rfl (Nat.le_of_ble_eq_true rfl) rfl fl_X6_178 rfl rfl dX6_goByOneYear_53 ?_
            refine J.aload_n hG dX6_goByOneYear_56 rfl rfl ?_
            refine J.getR hG ciX6 rfl 2 2 rfl (Nat.le_of_ble_eq_true rfl) rfl fl_X6_26 dX6_goByOneYear_57 ?_
            refine J.getR hG ciX2 rfl 2 2 rfl (Nat.le_of_ble_eq_true rfl) rfl fl_X6_121 dX6_goByOneYear_60 ?_
            refine J.iload_n hG dX6_goByOneYear_63 rfl rfl ?_
            refine J.iload_n hG dX6_goByOneYear_64 rfl rfl ?_
            refine J.callS hG (X6_cell _ _ _ (by omega) (by omega)) ok_X6_cell ml_X6_124 rfl (Nat.le_of_ble_eq_true rfl) ⟨Nat.le_of_ble_eq_true rfl, Nat.le_of_ble_eq_true rfl⟩ dX6_goByOneYear_65 rfl (fun r1 μ1 hp1 => ?_)
            obtain ⟨rfl, rfl⟩ := hp1
            refine J.aload_n hG dX6_goByOneYear_68 rfl rfl ?_
            refine J.iconst hG dX6_goByOneYear_69 (by decide) ?_
            refine J.iload_n hG dX6_goByOneYear_70 rfl rfl ?_
            refine J.iload_n hG dX6_goByOneYear_71 rfl rfl ?_
            refine J.callV hG (X6_valueBehind _ (by first | exact IG_XB hB hJ | exact IG_XB hB (IG_j _ hJ)) _ _ _ (by omega) (by first | omega | (rw [up_cell _ _ _ (by decide)]; omega)) (by first | omega | (rw [up_cell _ _ _ (by decide)]; omega))) ok_X6_valueBehind ml_X6_263 rfl rfl rfl rfl (Nat.le_of_ble_eq_true rfl) ⟨Nat.le_of_ble_eq_true rfl, Nat.le_of_ble_eq_true rfl⟩ dX6_goByOneYear_72 rfl (fun r1 μ1 hp1 => ?_)
            obtain ⟨rfl, rfl⟩ := hp1
            refine J.iast hG rfl (by omega) (by omega) dX6_goByOneYear_75 ?_
            refine J.iinc hG dX6_goByOneYear_76 (Nat.le_of_ble_eq_true rfl) rfl (fun _ => (by omega)) ?_
            refine J.goto hG 15 dX6_goByOneYear_79 rfl ?_
            first
              | (rw [tv]; refine ih2 (s + 1) _ (by omega) (by omega) (IG_v hJ (by omega) (by omega)) ?_; rw [up_cell _ _ _ (by decide)]; rw [if_pos (by rw [← t0, h40, t1]; rfl)] at j2; omega)
              | (rw [tv2]; refine ih2 (s + 1) _ (by omega) (by omega) (IG_v (IG_j _ hJ) (by omega) (by omega)) ?_; rw [up_cell _ _ _ (by decide), up_self]; rw [if_neg (fun q => h40 (by rw [t0, t1]; exact q))] at j2; omega)
      have e13 : ν 13 = μ 13 := hI.1 13 (by decide) (by decide)
      have e0 : ν 13 0 = μ 13 0 := by rw [e13]
      have e1 : ν 13 1 = μ 13 1 := by rw [e13]
      refine J.iload_n hG dX6_goByOneYear_2 rfl rfl ?_
      refine J.aload_n hG dX6_goByOneYear_3 rfl rfl ?_
      refine J.getR hG ciX6 rfl 1 1 rfl (Nat.le_of_ble_eq_true rfl) rfl fl_X6_19 dX6_goByOneYear_4 ?_
      refine J.getI hG ciX1 rfl 1 1 rfl (Nat.le_of_ble_eq_true rfl) rfl fl_X6_246 dX6_goByOneYear_7 ?_
      refine J.icmp_ge hG 88 dX6_goByOneYear_10 rfl (fun h10 => absurd h10 (by omega)) (fun h10 => ?_)
      refine J.iconst hG dX6_goByOneYear_13 (by decide) ?_
      refine J.istore_n hG dX6_goByOneYear_14 rfl (Nat.le_of_ble_eq_true rfl) ?_
      exact lp2 (μ 13 0).toNat 0 ν (Int.le_refl _) (by omega) hI (by refine ⟨?_, by omega, by omega⟩; have := i2.1; omega)
  refine J.iconst hG dX6_goByOneYear_0 (by decide) ?_
  refine J.istore_n hG dX6_goByOneYear_1 rfl (Nat.le_of_ble_eq_true rfl) ?_
  exact lp (μ 13 1).toNat 0 μ (Int.le_refl _) (by omega) ⟨fun _ _ _ => rfl, rfl, fun l' s' a b c d => by rw [if_neg (by omega)]⟩ ⟨by unfold xJc; rfl, by omega, by omega⟩

/-- n years gone by -/
def XGoN (μ : Mem) (n : Int) (ν : Mem) : Prop := (∀ c : Nat, c ≠ 17 → c ≠ 18 → ν c = μ c) ∧ ν 17 0 = μ 17 0 + n ∧ ν 17 1 = μ 17 1 + smf (fun y => xJc μ y) 0 n.toNat ∧ ∀ l s : Int, 0 ≤ l → l < μ 13 1 → 0 ≤ s → s < μ 13 0 → ν 18 (l * 4 + s) = xV μ n l s
theorem smf_last (f : Int → Int) : ∀ (k : Nat) (s : Int), smf f s (k + 1) = smf f s k + f (s + k)
  | 0, s => by simp [smf]
  | k + 1, s => by
    rw [smf, smf_last f k (s + 1), smf]
    have : s + 1 + (k : Int) = s + ((k + 1 : Nat) : Int) := by omega
    rw [this]
    omega
theorem cl_step {r v d : Int} (y : Int) (hr : 0 ≤ r) (hv : 0 ≤ v ∧ v ≤ r) (hy : 0 ≤ y) : cl r (cl r (v + y * d) + 1 * d) = cl r (v + (y + 1) * d) := by
  have e : (y + 1) * d = y * d + d := by rw [Int.add_mul, Int.one_mul]
  rw [e, Int.one_mul]
  rcases Int.le_total 0 d with h | h
  · have hp : 0 ≤ y * d := Int.mul_nonneg hy h
    unfold cl
    (repeat' split) <;> omega
  · have hp : y * d ≤ 0 := Int.mul_nonpos_of_nonneg_of_nonpos hy h
    unfold cl
    (repeat' split) <;> omega
theorem XGoN_XB {μ ν : Mem} {n : Int} (hB : XB μ) (h : XGoN μ n ν) : XB ν := by
  have e13 := h.1 13 (by decide) (by decide)
  have e14 := h.1 14 (by decide) (by decide)
  have e15 := h.1 15 (by decide) (by decide)
  unfold XB
  rw [e13, e14, e15]
  have hB2 := hB
  obtain ⟨h1, h2, h3, h4, h5, h6⟩ := hB2
  refine ⟨h1, h2, h3, h4, h5, fun l' s' a b c d => ?_⟩
  have q := h6 l' s' a b c d
  have v := xV_bound hB n l' s' ⟨c, d⟩
  rw [h.2.2.2 l' s' a b c d]
  exact ⟨q.1, q.2.1, v.1, v.2⟩
theorem XGoN_V {μ ν : Mem} {n : Int} (hB : XB μ) (hn : 0 ≤ n) (h : XGoN μ n ν) (l s : Int) (hl : 0 ≤ l ∧ l < μ 13 1) (hs : 0 ≤ s ∧ s < μ 13 0) : xV ν 1 l s = xV μ (n + 1) l s ∧ xV ν 0 l s = xV μ n l s := by
  have q5 := hB.2.2.2.2.1 s hs.1 hs.2
  have q6 := hB.2.2.2.2.2 l s hl.1 hl.2 hs.1 hs.2
  have vb := xV_bound hB n l s hs
  unfold xV at vb ⊢
  rw [h.1 14 (by decide) (by decide), h.1 15 (by decide) (by decide), h.2.2.2 l s hl.1 hl.2 hs.1 hs.2]
  refine ⟨cl_step n (by omega) ⟨q6.2.2.1, q6.2.2.2⟩ hn, ?_⟩
  rw [Int.zero_mul, Int.add_zero]
  show cl (μ 14 s) (cl _ _) = cl _ _
  generalize cl (μ 14 s) (μ 18 (l * 4 + s) + n * μ 15 (l * 4 + s)) = z at vb ⊢
  unfold cl
  rw [if_neg (by omega), if_neg (by omega)]
theorem XGoN_J {μ ν : Mem} {n : Int} (hB : XB μ) (hn : 0 ≤ n) (h : XGoN μ n ν) : xJc ν 0 = xJc μ n := by
  unfold xJc
  rw [h.1 13 (by decide) (by decide)]
  have h1 := hB.1
  have h2 := hB.2.1
  refine smf_congr _ _ (fun l a b => smf_congr _ _ (fun s c d => ?_))
  have hv := XGoN_V hB hn h l s (by omega) (by omega)
  have e0 : xE ν 0 l s = xE μ n l s := by
    unfold xE
    rw [h.1 19 (by decide) (by decide), h.1 20 (by decide) (by decide), h.1 14 (by decide) (by decide), hv.2]
  have e1 : xE ν (0 + 1) l s = xE μ (n + 1) l s := by
    unfold xE
    rw [h.1 19 (by decide) (by decide), h.1 20 (by decide) (by decide), h.1 14 (by decide) (by decide), Int.zero_add, hv.1]
  rw [e0, e1]
theorem XGoN_succ {μ ν ν1 : Mem} {n : Int} (hB : XB μ) (hn : 0 ≤ n) (h : XGoN μ n ν) (g : XGo ν ν1) : XGoN μ (n + 1) ν1 := by
  have e13 := h.1 13 (by decide) (by decide)
  refine ⟨fun c a b => by rw [g.1 c a b, h.1 c a b], by rw [g.2.1, h.2.1]; omega, ?_, fun l s a b c d => ?_⟩
  · rw [g.2.2.1, h.2.2.1, XGoN_J hB hn h, show (n + 1).toNat = n.toNat + 1 by omega, smf_last]
    have : (0 : Int) + (n.toNat : Int) = n := by omega
    rw [this]
    omega
  · rw [g.2.2.2 l s a (by rw [e13]; exact b) c (by rw [e13]; exact d)]
    exact (XGoN_V hB hn h l s ⟨a, b⟩ ⟨c, d⟩).1
theorem XGoN_0 {μ : Mem} (hB : XB μ) : XGoN μ 0 μ := ⟨fun _ _ _ => rfl, by omega, by simp [smf], fun l s a b c d => by
  have q6 := hB.2.2.2.2.2 l s a b c d
  unfold xV cl
  rw [Int.zero_mul, Int.add_zero, if_neg (by omega), if_neg (by omega)]⟩
theorem XGoN_jb {μ ν : Mem} {n : Int} (hB : XB μ) (hn : 0 ≤ n) (h : XGoN μ n ν) : μ 17 1 ≤ ν 17 1 ∧ ν 17 1 ≤ μ 17 1 + 16 * n := by
  have := smf_bound (f := fun y => xJc μ y) (a := 0) (b := 16) n.toNat 0 (fun i _ _ => xJc_bound μ i hB.1 hB.2.1)
  rw [h.2.2.1]
  omega

set_option maxRecDepth 100000 in
set_option maxHeartbeats 4000000 in
theorem X6_passes (μ : Mem) (hB : XB μ) (hp : XP μ) (hy : 0 ≤ μ 17 0 ∧ μ 17 0 ≤ 99) (hj : 0 ≤ μ 17 1 ∧ μ 17 1 ≤ 16 * μ 17 0) (n : Int) : CT TX md_X6_passes [aR 0, aI n] μ (fun rv μ1 => if ¬ (1 ≤ n ∧ n ≤ 30) then rv = some (aI (-1)) ∧ μ1 = μ else if 99 < μ 17 0 + n then rv = some (aI (-2)) ∧ μ1 = μ else rv = some (aI (μ 17 0 + n)) ∧ XGoN (rem μ) n μ1) := by
  refine CT.of (Nat.le_of_ble_eq_true rfl) (by decide) rfl (Nat.le_of_ble_eq_true rfl) (fun X hG hX => ?_)
  have hG : G TX X RX6 cX6_passes 3 5 121 (some .int) := hG
  show J TX X 3 0 [some (aR 0), some (aI n), none] [] μ
  refine J.iload_n hG dX6_passes_0 rfl rfl ?_
  refine J.iconst hG dX6_passes_1 (by decide) ?_
  refine J.bipush hG dX6_passes_2 (by decide) (by decide) ?_
  refine J.callS hG (X6_within _ _ _ _) ok_X6_within ml_X6_70 rfl (Nat.le_of_ble_eq_true rfl) ⟨Nat.le_of_ble_eq_true rfl, Nat.le_of_ble_eq_true rfl⟩ dX6_passes_4 rfl (fun r1 μ1 hp1 => ?_)
  obtain ⟨rfl, rfl⟩ := hp1
  refine J.ifb_ne hG 12 dX6_passes_7 rfl (fun h7 => ?_) (fun h7 => ?_)
  · refine J.aload_n hG dX6_passes_12 rfl rfl ?_
    refine J.getR hG ciX6 rfl 2 2 rfl (Nat.le_of_ble_eq_true rfl) rfl fl_X6_26 dX6_passes_13 ?_
    refine J.getI hG ciX2 rfl 0 0 rfl (Nat.le_of_ble_eq_true rfl) rfl fl_X6_144 dX6_passes_16 ?_
    refine J.iload_n hG dX6_passes_19 rfl rfl ?_
    refine J.iadd hG dX6_passes_20 (fun _ _ => (by omega)) ?_
    refine J.bipush hG dX6_passes_21 (by decide) (by decide) ?_
    refine J.icmp_le hG 29 dX6_passes_23 rfl (fun h23 => ?_) (fun h23 => ?_)
    · refine J.aload_n hG dX6_passes_29 rfl rfl ?_
      refine J.getR hG ciX6 rfl 3 3 rfl (Nat.le_of_ble_eq_true rfl) rfl fl_X6_33 dX6_passes_30 ?_
      refine J.aload_n hG dX6_passes_33 rfl rfl ?_
      refine J.getR hG ciX6 rfl 2 2 rfl (Nat.le_of_ble_eq_true rfl) rfl fl_X6_26 dX6_passes_34 ?_
      refine J.callV hG (X3_remembers _ hp) ok_X3_remembers ml_X6_147 rfl rfl rfl rfl (Nat.le_of_ble_eq_true rfl) ⟨Nat.le_of_ble_eq_true rfl, Nat.le_of_ble_eq_true rfl⟩ dX6_passes_37 rfl (fun r1 μ1 hp1 => ?_)
      obtain ⟨rfl, rfl⟩ := hp1
      refine J.iconst hG dX6_passes_40 (by decide) ?_
      refine J.istore_n hG dX6_passes_41 rfl (Nat.le_of_ble_eq_true rfl) ?_
      have lp : ∀ (k : Nat) (y : Int) (ν : Mem), 0 ≤ y → y + k = n → (XGoN (rem μ) y ν) → J TX X 3 42 [some (aR 0), some (aI n), some (aI y)] [] ν := by
        intro k
        induction k with
        | zero =>
          intro y ν i0 i1 hI
          have e17 : rem μ 17 = μ 17 := rem_cell _ _ (by omega) hp
          have hBr := rem_XB hB hp
          have q := hI.2.1
          rw [e17] at q
          have ey : y = n := by omega
          refine J.iload_n hG dX6_passes_42 rfl rfl ?_
          refine J.iload_n hG dX6_passes_43 rfl rfl ?_
          refine J.icmp_ge hG 57 dX6_passes_44 rfl (fun h44 => ?_) (fun h44 => absurd h44 (by omega))
          refine J.aload_n hG dX6_passes_57 rfl rfl ?_
          refine J.getR hG ciX6 rfl 2 2 rfl (Nat.le_of_ble_eq_true rfl) rfl fl_X6_26 dX6_passes_58 ?_
          refine J.getI hG ciX2 rfl 0 0 rfl (Nat.le_of_ble_eq_true rfl) rfl fl_X6_144 dX6_passes_61 ?_
          refine J.iret hG dX6_passes_64 ?_
          rw [hX]; dsimp only
          rw [if_neg (by omega), if_neg (by omega)]
          subst ey
          exact ⟨by rw [q], hI⟩
        | succ k ih =>
          intro y ν i0 i1 hI
          have e17 : rem μ 17 = μ 17 := rem_cell _ _ (by omega) hp
          have hBr := rem_XB hB hp
          have q := hI.2.1
          rw [e17] at q
          have jb := XGoN_jb hBr (by omega) hI
          rw [e17] at jb
          refine J.iload_n hG dX6_passes_42 rfl rfl ?_
          refine J.iload_n hG dX6_passes_43 rfl rfl ?_
          refine J.icmp_ge hG 57 dX6_passes_44 rfl (fun h44 => absurd h44 (by omega)) (fun h44 => ?_)
          refine J.aload_n hG dX6_passes_47 rfl rfl ?_
          refine J.callV hG (X6_goByOneYear _ (XGoN_XB hBr hI) (by omega) (by omega)) ok_X6_goByOneYear ml_X6_150 rfl rfl rfl rfl (Nat.le_of_ble_eq_true rfl) ⟨Nat.le_of_ble_eq_true rfl, Nat.le_of_ble_eq_true rfl⟩ dX6_passes_48 rfl (fun r1 μ1 hp1 => ?_)
          obtain ⟨rfl, hp2⟩ := hp1
          refine J.iinc hG dX6_passes_51 (Nat.le_of_ble_eq_true rfl) rfl (fun _ => (by omega)) ?_
          refine J.goto hG 42 dX6_passes_54 rfl ?_
          exact ih (y + 1) _ (by omega) (by omega) (XGoN_succ hBr (by omega) hI hp2)
      exact lp n.toNat 0 _ (Int.le_refl _) (by omega) (XGoN_0 (rem_XB hB hp))
    · refine J.bipush hG dX6_passes_26 (by decide) (by decide) ?_
      refine J.iret hG dX6_passes_28 ?_
      rw [hX]; dsimp only
      rw [if_neg (by omega), if_pos (by omega)]
      exact ⟨rfl, rfl⟩
  · refine J.iconst hG dX6_passes_10 (by decide) ?_
    refine J.iret hG dX6_passes_11 ?_
    rw [hX]; dsimp only
    rw [if_pos (by omega)]
    exact ⟨rfl, rfl⟩

def xS (μ : Mem) (l : Int) : Int := smf (fun s => μ 18 (l * 4 + s)) 0 (μ 13 0).toNat
theorem xS_bound {μ : Mem} (hB : XB μ) (l : Int) (hl : 0 ≤ l ∧ l < μ 13 1) : 0 ≤ xS μ l ∧ xS μ l ≤ 120 := by
  obtain ⟨h1, h2, h3, h4, h5, h6⟩ := hB
  have := smf_bound (f := fun s => μ 18 (l * 4 + s)) (a := 0) (b := 30) (μ 13 0).toNat 0 (fun i a b => by
    have q5 := h5 i (by omega) (by omega)
    have q6 := h6 l i hl.1 hl.2 (by omega) (by omega)
    omega)
  unfold xS
  omega
theorem up_tr (μ : Mem) (x : Int) (c : Nat) (h : c < 1000) : up μ 1000 10 x c = μ c := up_cell _ _ _ (by omega)
theorem XB_tr {μ : Mem} (h : XB μ) (x : Int) : XB (up μ 1000 10 x) := XB_of h (up_tr _ _ _ (by decide)) (up_tr _ _ _ (by decide)) (up_tr _ _ _ (by decide)) (up_tr _ _ _ (by decide))
theorem xS_tr (μ : Mem) (x l : Int) : xS (up μ 1000 10 x) l = xS μ l := by unfold xS; rw [up_tr _ _ _ (by decide), up_tr _ _ _ (by decide)]
theorem xC_tr (μ : Mem) (x e l : Int) : xC (up μ 1000 10 x) e l = xC μ e l := by unfold xC; rw [up_tr _ _ 19 (by decide), up_tr _ _ 20 (by decide), up_tr _ _ 14 (by decide), up_tr _ _ 18 (by decide), up_tr _ _ 13 (by decide)]
theorem up_tr2 (μ : Mem) (x y : Int) : up (up μ 1000 10 x) 1000 10 y = up μ 1000 10 y := by
  funext c j
  by_cases h : c = 1000 ∧ j = 10
  · rw [h.1, h.2, up_self, up_self]
  · rw [up_ne _ h, up_ne _ h, up_ne _ h]

set_option maxRecDepth 100000 in
set_option maxHeartbeats 4000000 in
theorem X6_rateAsLife (μ : Mem) (hB : XB μ) (l : Int) (hl : 0 ≤ l ∧ l < μ 13 1) : CT TX md_X6_rateAsLife [aR 0, aI l] μ (fun rv μ1 => rv = some (aI (xS μ l)) ∧ μ1 = up μ 1000 10 (μ 1000 10 + 1)) := by
  refine CT.of (Nat.le_of_ble_eq_true rfl) (by decide) rfl (Nat.le_of_ble_eq_true rfl) (fun X hG hX => ?_)
  have hG : G TX X RX6 cX6_rateAsLife 4 1 21 (some .int) := hG
  show J TX X 4 0 [some (aR 0), some (aI l), none, none] [] μ
  have hB2 := hB
  obtain ⟨h1, h2, h3, h4, h5, h6⟩ := hB2
  have lp : ∀ (k : Nat) (s : Int) (a : Int), 0 ≤ s → s + k = μ 13 0 → (0 ≤ a ∧ a ≤ 30 * s) → (a + smf (fun s => μ 18 (l * 4 + s)) s k = xS μ l) → J TX X 4 14 [some (aR 0), some (aI l), some (aI a), some (aI s)] [] (up μ 1000 10 (μ 1000 10 + 1)) := by
    intro k
    induction k with
    | zero =>
      intro s a i0 i1 i2 i3
      have e13 : up μ 1000 10 (μ 1000 10 + 1) 13 = μ 13 := up_tr _ _ _ (by decide)
      have e0 : up μ 1000 10 (μ 1000 10 + 1) 13 0 = μ 13 0 := by rw [e13]
      have e18 : up μ 1000 10 (μ 1000 10 + 1) 18 = μ 18 := up_tr _ _ _ (by decide)
      refine J.iload_n hG dX6_rateAsLife_14 rfl rfl ?_
      refine J.aload_n hG dX6_rateAsLife_15 rfl rfl ?_
      refine J.getR hG ciX6 rfl 1 1 rfl (Nat.le_of_ble_eq_true rfl) rfl fl_X6_19 dX6_rateAsLife_16 ?_
      refine J.getI hG ciX1 rfl 0 0 rfl (Nat.le_of_ble_eq_true rfl) rfl fl_X6_222 dX6_rateAsLife_19 ?_
      refine J.icmp_ge hG 47 dX6_rateAsLife_22 rfl (fun h22 => ?_) (fun h22 => absurd h22 (by omega))
      refine J.iload_n hG dX6_rateAsLife_47 rfl rfl ?_
      refine J.iret hG dX6_rateAsLife_48 ?_
      rw [hX]; dsimp only
      exact ⟨by rw [← i3]; simp only [smf, Int.add_zero], rfl⟩
    | succ k ih =>
      intro s a i0 i1 i2 i3
      have e13 : up μ 1000 10 (μ 1000 10 + 1) 13 = μ 13 := up_tr _ _ _ (by decide)
      have e0 : up μ 1000 10 (μ 1000 10 + 1) 13 0 = μ 13 0 := by rw [e13]
      have e18 : up μ 1000 10 (μ 1000 10 + 1) 18 = μ 18 := up_tr _ _ _ (by decide)
      rw [smf] at i3
      have q5 := h5 s (by omega) (by omega)
      have q6 := h6 l s hl.1 hl.2 (by omega) (by omega)
      refine J.iload_n hG dX6_rateAsLife_14 rfl rfl ?_
      refine J.aload_n hG dX6_rateAsLife_15 rfl rfl ?_
      refine J.getR hG ciX6 rfl 1 1 rfl (Nat.le_of_ble_eq_true rfl) rfl fl_X6_19 dX6_rateAsLife_16 ?_
      refine J.getI hG ciX1 rfl 0 0 rfl (Nat.le_of_ble_eq_true rfl) rfl fl_X6_222 dX6_rateAsLife_19 ?_
      refine J.icmp_ge hG 47 dX6_rateAsLife_22 rfl (fun h22 => absurd h22 (by omega)) (fun h22 => ?_)
      refine J.iload_n hG dX6_rateAsLife_25 rfl rfl ?_
      refine J.aload_n hG dX6_rateAsLife_26 rfl rfl ?_
      refine J.getR hG ciX6 rfl 2 2 rfl (Nat.le_of_ble_eq_true rfl) rfl fl_X6_26 dX6_rateAsLife_27 ?_
      refine J.getR hG ciX2 rfl 2 2 rfl (Nat.le_of_ble_eq_true rfl) rfl fl_X6_121 dX6_rateAsLife_30 ?_
      refine J.iload_n hG dX6_rateAsLife_33 rfl rfl ?_
      refine J.iload_n hG dX6_rateAsLife_34 rfl rfl ?_
      refine J.callS hG (X6_cell _ _ _ (by omega) (by omega)) ok_X6_cell ml_X6_124 rfl (Nat.le_of_ble_eq_true rfl) ⟨Nat.le_of_ble_eq_true rfl, Nat.le_of_ble_eq_true rfl⟩ dX6_rateAsLife_35 rfl (fun r1 μ1 hp1 => ?_)
      obtain ⟨rfl, rfl⟩ := hp1
      refine J.iald hG rfl (by omega) (by omega) dX6_rateAsLife_38 ?_
      refine J.iadd hG dX6_rateAsLife_39 (fun _ _ => (by rw [e18]; omega)) ?_
      refine J.istore_n hG dX6_rateAsLife_40 rfl (Nat.le_of_ble_eq_true rfl) ?_
      refine J.iinc hG dX6_rateAsLife_41 (Nat.le_of_ble_eq_true rfl) rfl (fun _ => (by omega)) ?_
      refine J.goto hG 14 dX6_rateAsLife_44 rfl ?_
      exact ih (s + 1) _ (by omega) (by omega) (by rw [e18]; omega) (by rw [e18]; omega)
  refine J.aload_n hG dX6_rateAsLife_0 rfl rfl ?_
  refine J.dup hG dX6_rateAsLife_1 (fun _ => rfl) ?_
  refine J.getL hG ciX6 rfl 10 10 rfl (Nat.le_of_ble_eq_true rfl) 1000 rfl rfl fl_X6_66 dX6_rateAsLife_2 ?_
  refine J.lconst hG (z := 1) dX6_rateAsLife_5 rfl ?_
  refine J.ladd hG dX6_rateAsLife_6 ?_
  refine J.putL hG ciX6 rfl 10 10 rfl (Nat.le_of_ble_eq_true rfl) 1000 rfl rfl fl_X6_66 rfl rfl dX6_rateAsLife_7 ?_
  refine J.iconst hG dX6_rateAsLife_10 (by decide) ?_
  refine J.istore_n hG dX6_rateAsLife_11 rfl (Nat.le_of_ble_eq_true rfl) ?_
  refine J.iconst hG dX6_rateAsLife_12 (by decide) ?_
  refine J.istore_n hG dX6_rateAsLife_13 rfl (Nat.le_of_ble_eq_true rfl) ?_
  exact lp (μ 13 0).toNat 0 0 (Int.le_refl _) (by omega) (by omega) (by unfold xS; omega)

set_option maxRecDepth 100000 in
set_option maxHeartbeats 4000000 in
theorem X6_rateAsChild (μ : Mem) (hB : XB μ) (l : Int) (hl : 0 ≤ l ∧ l < μ 13 1) : CT TX md_X6_rateAsChild [aR 0, aI l] μ (fun rv μ1 => rv = some (aI (xS μ l + xC μ 1 l)) ∧ μ1 = up μ 1000 10 (μ 1000 10 + 11)) := by
  refine CT.of (Nat.le_of_ble_eq_true rfl) (by decide) rfl (Nat.le_of_ble_eq_true rfl) (fun X hG hX => ?_)
  have hG : G TX X RX6 cX6_rateAsChild 2 3 70 (some .int) := hG
  show J TX X 2 0 [some (aR 0), some (aI l)] [] μ
  have hB2 := hB
  obtain ⟨h1, h2, h3, h4, h5, h6⟩ := hB2
  have sb := xS_bound hB l hl
  have c1 := xC_bound μ 1 l h1
  have c2 := xC_bound μ 2 l h1
  refine J.aload_n hG dX6_rateAsChild_0 rfl rfl ?_
  refine J.dup hG dX6_rateAsChild_1 (fun _ => rfl) ?_
  refine J.getL hG ciX6 rfl 10 10 rfl (Nat.le_of_ble_eq_true rfl) 1000 rfl rfl fl_X6_66 dX6_rateAsChild_2 ?_
  refine J.ldc2 hG (n := 10) dX6_rateAsChild_5 ct_X6_314 (by decide) ?_
  refine J.ladd hG dX6_rateAsChild_8 ?_
  refine J.putL hG ciX6 rfl 10 10 rfl (Nat.le_of_ble_eq_true rfl) 1000 rfl rfl fl_X6_66 rfl rfl dX6_rateAsChild_9 ?_
  refine J.aload_n hG dX6_rateAsChild_12 rfl rfl ?_
  refine J.iload_n hG dX6_rateAsChild_13 rfl rfl ?_
  refine J.callV hG (X6_rateAsLife _ (XB_tr hB _) _ (by rw [up_tr _ _ _ (by decide)]; exact hl)) ok_X6_rateAsLife ml_X6_228 rfl rfl rfl rfl (Nat.le_of_ble_eq_true rfl) ⟨Nat.le_of_ble_eq_true rfl, Nat.le_of_ble_eq_true rfl⟩ dX6_rateAsChild_14 rfl (fun r1 μ1 hp1 => ?_)
  obtain ⟨rfl, rfl⟩ := hp1
  refine J.aload_n hG dX6_rateAsChild_17 rfl rfl ?_
  refine J.iconst hG dX6_rateAsChild_18 (by decide) ?_
  refine J.iload_n hG dX6_rateAsChild_19 rfl rfl ?_
  refine J.callV hG (X6_scalesAt _ (XB_tr (XB_tr hB _) _) _ _ (by rw [up_tr _ _ _ (by decide), up_tr _ _ _ (by decide)]; exact hl)) ok_X6_scalesAt ml_X6_266 rfl rfl rfl rfl (Nat.le_of_ble_eq_true rfl) ⟨Nat.le_of_ble_eq_true rfl, Nat.le_of_ble_eq_true rfl⟩ dX6_rateAsChild_20 rfl (fun r1 μ1 hp1 => ?_)
  obtain ⟨rfl, rfl⟩ := hp1
  refine J.iadd hG dX6_rateAsChild_23 (fun _ _ => (by simp only [xS_tr, xC_tr]; omega)) ?_
  refine J.iret hG dX6_rateAsChild_24 ?_
  rw [hX]; dsimp only
  refine ⟨?_, ?_⟩
  · first | rfl | (simp only [xS_tr, xC_tr]; done) | (simp only [xS_tr, xC_tr]; rfl)
  · rw [up_tr2, up_self]; first | rfl | (congr 1; omega)

set_option maxRecDepth 100000 in
set_option maxHeartbeats 4000000 in
theorem X6_rateAsFiance (μ : Mem) (hB : XB μ) (l : Int) (hl : 0 ≤ l ∧ l < μ 13 1) : CT TX md_X6_rateAsFiance [aR 0, aI l] μ (fun rv μ1 => rv = some (aI (xS μ l - xC μ 2 l)) ∧ μ1 = up μ 1000 10 (μ 1000 10 + 101)) := by
  refine CT.of (Nat.le_of_ble_eq_true rfl) (by decide) rfl (Nat.le_of_ble_eq_true rfl) (fun X hG hX => ?_)
  have hG : G TX X RX6 cX6_rateAsFiance 2 3 70 (some .int) := hG
  show J TX X 2 0 [some (aR 0), some (aI l)] [] μ
  have hB2 := hB
  obtain ⟨h1, h2, h3, h4, h5, h6⟩ := hB2
  have sb := xS_bound hB l hl
  have c1 := xC_bound μ 1 l h1
  have c2 := xC_bound μ 2 l h1
  refine J.aload_n hG dX6_rateAsFiance_0 rfl rfl ?_
  refine J.dup hG dX6_rateAsFiance_1 (fun _ => rfl) ?_
  refine J.getL hG ciX6 rfl 10 10 rfl (Nat.le_of_ble_eq_true rfl) 1000 rfl rfl fl_X6_66 dX6_rateAsFiance_2 ?_
  refine J.ldc2 hG (n := 100) dX6_rateAsFiance_5 ct_X6_316 (by decide) ?_
  refine J.ladd hG dX6_rateAsFiance_8 ?_
  refine J.putL hG ciX6 rfl 10 10 rfl (Nat.le_of_ble_eq_true rfl) 1000 rfl rfl fl_X6_66 rfl rfl dX6_rateAsFiance_9 ?_
  refine J.aload_n hG dX6_rateAsFiance_12 rfl rfl ?_
  refine J.iload_n hG dX6_rateAsFiance_13 rfl rfl ?_
  refine J.callV hG (X6_rateAsLife _ (XB_tr hB _) _ (by rw [up_tr _ _ _ (by decide)]; exact hl)) ok_X6_rateAsLife ml_X6_228 rfl rfl rfl rfl (Nat.le_of_ble_eq_true rfl) ⟨Nat.le_of_ble_eq_true rfl, Nat.le_of_ble_eq_true rfl⟩ dX6_rateAsFiance_14 rfl (fun r1 μ1 hp1 => ?_)
  obtain ⟨rfl, rfl⟩ := hp1
  refine J.aload_n hG dX6_rateAsFiance_17 rfl rfl ?_
  refine J.iconst hG dX6_rateAsFiance_18 (by decide) ?_
  refine J.iload_n hG dX6_rateAsFiance_19 rfl rfl ?_
  refine J.callV hG (X6_scalesAt _ (XB_tr (XB_tr hB _) _) _ _ (by rw [up_tr _ _ _ (by decide), up_tr _ _ _ (by decide)]; exact hl)) ok_X6_scalesAt ml_X6_266 rfl rfl rfl rfl (Nat.le_of_ble_eq_true rfl) ⟨Nat.le_of_ble_eq_true rfl, Nat.le_of_ble_eq_true rfl⟩ dX6_rateAsFiance_20 rfl (fun r1 μ1 hp1 => ?_)
  obtain ⟨rfl, rfl⟩ := hp1
  refine J.isub hG dX6_rateAsFiance_23 (fun _ _ => (by simp only [xS_tr, xC_tr]; omega)) ?_
  refine J.iret hG dX6_rateAsFiance_24 ?_
  rw [hX]; dsimp only
  refine ⟨?_, ?_⟩
  · first | rfl | (simp only [xS_tr, xC_tr]; done) | (simp only [xS_tr, xC_tr]; rfl)
  · rw [up_tr2, up_self]; first | rfl | (congr 1; omega)

set_option maxRecDepth 100000 in
set_option maxHeartbeats 4000000 in
theorem X6_rateAsThirdSon (μ : Mem) (hB : XB μ) (l : Int) (hl : 0 ≤ l ∧ l < μ 13 1) : CT TX md_X6_rateAsThirdSon [aR 0, aI l] μ (fun rv μ1 => rv = some (aI (2 * (xS μ l + xC μ 1 l))) ∧ μ1 = up μ 1000 10 (μ 1000 10 + 1011)) := by
  refine CT.of (Nat.le_of_ble_eq_true rfl) (by decide) rfl (Nat.le_of_ble_eq_true rfl) (fun X hG hX => ?_)
  have hG : G TX X RX6 cX6_rateAsThirdSon 2 4 91 (some .int) := hG
  show J TX X 2 0 [some (aR 0), some (aI l)] [] μ
  have hB2 := hB
  obtain ⟨h1, h2, h3, h4, h5, h6⟩ := hB2
  have sb := xS_bound hB l hl
  have c1 := xC_bound μ 1 l h1
  have c2 := xC_bound μ 2 l h1
  refine J.aload_n hG dX6_rateAsThirdSon_0 rfl rfl ?_
  refine J.dup hG dX6_rateAsThirdSon_1 (fun _ => rfl) ?_
  refine J.getL hG ciX6 rfl 10 10 rfl (Nat.le_of_ble_eq_true rfl) 1000 rfl rfl fl_X6_66 dX6_rateAsThirdSon_2 ?_
  refine J.ldc2 hG (n := 1000) dX6_rateAsThirdSon_5 ct_X6_318 (by decide) ?_
  refine J.ladd hG dX6_rateAsThirdSon_8 ?_
  refine J.putL hG ciX6 rfl 10 10 rfl (Nat.le_of_ble_eq_true rfl) 1000 rfl rfl fl_X6_66 rfl rfl dX6_rateAsThirdSon_9 ?_
  refine J.iconst hG dX6_rateAsThirdSon_12 (by decide) ?_
  refine J.aload_n hG dX6_rateAsThirdSon_13 rfl rfl ?_
  refine J.iload_n hG dX6_rateAsThirdSon_14 rfl rfl ?_
  refine J.callV hG (X6_rateAsChild _ (XB_tr hB _) _ (by rw [up_tr _ _ _ (by decide)]; exact hl)) ok_X6_rateAsChild ml_X6_231 rfl rfl rfl rfl (Nat.le_of_ble_eq_true rfl) ⟨Nat.le_of_ble_eq_true rfl, Nat.le_of_ble_eq_true rfl⟩ dX6_rateAsThirdSon_15 rfl (fun r1 μ1 hp1 => ?_)
  obtain ⟨rfl, rfl⟩ := hp1
  refine J.imul hG dX6_rateAsThirdSon_18 (fun _ _ => (by simp only [xS_tr, xC_tr]; omega)) ?_
  refine J.iret hG dX6_rateAsThirdSon_19 ?_
  rw [hX]; dsimp only
  refine ⟨?_, ?_⟩
  · first | rfl | (simp only [xS_tr, xC_tr]; done) | (simp only [xS_tr, xC_tr]; rfl)
  · rw [up_tr2, up_self]; first | rfl | (congr 1; omega)

set_option maxRecDepth 100000 in
set_option maxHeartbeats 4000000 in
theorem X6_rateAsWidow (μ : Mem) (hB : XB μ) (l : Int) (hl : 0 ≤ l ∧ l < μ 13 1) : CT TX md_X6_rateAsWidow [aR 0, aI l] μ (fun rv μ1 => rv = some (aI (xS μ l - xC μ 2 l + l)) ∧ μ1 = up μ 1000 10 (μ 1000 10 + 10101)) := by
  refine CT.of (Nat.le_of_ble_eq_true rfl) (by decide) rfl (Nat.le_of_ble_eq_true rfl) (fun X hG hX => ?_)
  have hG : G TX X RX6 cX6_rateAsWidow 2 4 91 (some .int) := hG
  show J TX X 2 0 [some (aR 0), some (aI l)] [] μ
  have hB2 := hB
  obtain ⟨h1, h2, h3, h4, h5, h6⟩ := hB2
  have sb := xS_bound hB l hl
  have c1 := xC_bound μ 1 l h1
  have c2 := xC_bound μ 2 l h1
  refine J.aload_n hG dX6_rateAsWidow_0 rfl rfl ?_
  refine J.dup hG dX6_rateAsWidow_1 (fun _ => rfl) ?_
  refine J.getL hG ciX6 rfl 10 10 rfl (Nat.le_of_ble_eq_true rfl) 1000 rfl rfl fl_X6_66 dX6_rateAsWidow_2 ?_
  refine J.ldc2 hG (n := 10000) dX6_rateAsWidow_5 ct_X6_320 (by decide) ?_
  refine J.ladd hG dX6_rateAsWidow_8 ?_
  refine J.putL hG ciX6 rfl 10 10 rfl (Nat.le_of_ble_eq_true rfl) 1000 rfl rfl fl_X6_66 rfl rfl dX6_rateAsWidow_9 ?_
  refine J.aload_n hG dX6_rateAsWidow_12 rfl rfl ?_
  refine J.iload_n hG dX6_rateAsWidow_13 rfl rfl ?_
  refine J.callV hG (X6_rateAsFiance _ (XB_tr hB _) _ (by rw [up_tr _ _ _ (by decide)]; exact hl)) ok_X6_rateAsFiance ml_X6_234 rfl rfl rfl rfl (Nat.le_of_ble_eq_true rfl) ⟨Nat.le_of_ble_eq_true rfl, Nat.le_of_ble_eq_true rfl⟩ dX6_rateAsWidow_14 rfl (fun r1 μ1 hp1 => ?_)
  obtain ⟨rfl, rfl⟩ := hp1
  refine J.iload_n hG dX6_rateAsWidow_17 rfl rfl ?_
  refine J.iadd hG dX6_rateAsWidow_18 (fun _ _ => (by simp only [xS_tr, xC_tr]; omega)) ?_
  refine J.iret hG dX6_rateAsWidow_19 ?_
  rw [hX]; dsimp only
  refine ⟨?_, ?_⟩
  · first | rfl | (simp only [xS_tr, xC_tr]; done) | (simp only [xS_tr, xC_tr]; rfl)
  · rw [up_tr2, up_self]; first | rfl | (congr 1; omega)

set_option maxRecDepth 100000 in
set_option maxHeartbeats 4000000 in
theorem X6_rateAsSmuggler (μ : Mem) (hB : XB μ) (l : Int) (hl : 0 ≤ l ∧ l < μ 13 1) : CT TX md_X6_rateAsSmuggler [aR 0, aI l] μ (fun rv μ1 => rv = some (aI (xS μ l + μ 13 3)) ∧ μ1 = up μ 1000 10 (μ 1000 10 + 100001)) := by
  refine CT.of (Nat.le_of_ble_eq_true rfl) (by decide) rfl (Nat.le_of_ble_eq_true rfl) (fun X hG hX => ?_)
  have hG : G TX X RX6 cX6_rateAsSmuggler 2 2 44 (some .int) := hG
  show J TX X 2 0 [some (aR 0), some (aI l)] [] μ
  have hB2 := hB
  obtain ⟨h1, h2, h3, h4, h5, h6⟩ := hB2
  have sb := xS_bound hB l hl
  have c1 := xC_bound μ 1 l h1
  have c2 := xC_bound μ 2 l h1
  refine J.aload_n hG dX6_rateAsSmuggler_0 rfl rfl ?_
  refine J.dup hG dX6_rateAsSmuggler_1 (fun _ => rfl) ?_
  refine J.getL hG ciX6 rfl 10 10 rfl (Nat.le_of_ble_eq_true rfl) 1000 rfl rfl fl_X6_66 dX6_rateAsSmuggler_2 ?_
  refine J.ldc2 hG (n := 100000) dX6_rateAsSmuggler_5 ct_X6_322 (by decide) ?_
  refine J.ladd hG dX6_rateAsSmuggler_8 ?_
  refine J.putL hG ciX6 rfl 10 10 rfl (Nat.le_of_ble_eq_true rfl) 1000 rfl rfl fl_X6_66 rfl rfl dX6_rateAsSmuggler_9 ?_
  refine J.aload_n hG dX6_rateAsSmuggler_12 rfl rfl ?_
  refine J.iload_n hG dX6_rateAsSmuggler_13 rfl rfl ?_
  refine J.callV hG (X6_rateAsLife _ (XB_tr hB _) _ (by rw [up_tr _ _ _ (by decide)]; exact hl)) ok_X6_rateAsLife ml_X6_228 rfl rfl rfl rfl (Nat.le_of_ble_eq_true rfl) ⟨Nat.le_of_ble_eq_true rfl, Nat.le_of_ble_eq_true rfl⟩ dX6_rateAsSmuggler_14 rfl (fun r1 μ1 hp1 => ?_)
  obtain ⟨rfl, rfl⟩ := hp1
  refine J.aload_n hG dX6_rateAsSmuggler_17 rfl rfl ?_
  refine J.getR hG ciX6 rfl 1 1 rfl (Nat.le_of_ble_eq_true rfl) rfl fl_X6_19 dX6_rateAsSmuggler_18 ?_
  refine J.getI hG ciX1 rfl 3 3 rfl (Nat.le_of_ble_eq_true rfl) rfl fl_X6_175 dX6_rateAsSmuggler_21 ?_
  refine J.iadd hG dX6_rateAsSmuggler_24 (fun _ _ => (by simp only [xS_tr]; rw [up_tr _ _ _ (by decide), up_tr _ _ _ (by decide)]; omega)) ?_
  refine J.iret hG dX6_rateAsSmuggler_25 ?_
  rw [hX]; dsimp only
  refine ⟨?_, ?_⟩
  · first | rfl | (simp only [xS_tr, xC_tr]; done) | (simp only [xS_tr, xC_tr]; rfl)
  · rw [up_tr2, up_self]; first | rfl | (congr 1; omega)

set_option maxRecDepth 100000 in
set_option maxHeartbeats 4000000 in
theorem X6_rate (μ : Mem) (hB : XB μ) (w l : Int) : CT TX md_X6_rate [aR 0, aI w, aI l] μ (fun rv μ1 => if ¬ (0 ≤ l ∧ l < μ 13 1) ∨ ¬ (0 ≤ w ∧ w ≤ 5) then rv = some (aI (-1000000)) ∧ μ1 = μ else rv = some (aI (if w = 0 then xS μ l else if w = 1 then xS μ l + xC μ 1 l else if w = 2 then xS μ l - xC μ 2 l else if w = 3 then 2 * (xS μ l + xC μ 1 l) else if w = 4 then xS μ l - xC μ 2 l + l else xS μ l + μ 13 3)) ∧ μ1 = up μ 1000 10 (μ 1000 10 + (if w = 0 then 1 else if w = 1 then 11 else if w = 2 then 101 else if w = 3 then 1011 else if w = 4 then 10101 else 100001))) := by
  refine CT.of (Nat.le_of_ble_eq_true rfl) (by decide) rfl (Nat.le_of_ble_eq_true rfl) (fun X hG hX => ?_)
  have hG : G TX X RX6 cX6_rate 3 5 112 (some .int) := hG
  show J TX X 3 0 [some (aR 0), some (aI w), some (aI l)] [] μ
  refine J.aload_n hG dX6_rate_0 rfl rfl ?_
  refine J.getR hG ciX6 rfl 1 1 rfl (Nat.le_of_ble_eq_true rfl) rfl fl_X6_19 dX6_rate_1 ?_
  refine J.iload_n hG dX6_rate_4 rfl rfl ?_
  refine J.callV hG (X1_hasLife _ _) ok_X1_hasLife ml_X6_118 rfl rfl rfl rfl (Nat.le_of_ble_eq_true rfl) ⟨Nat.le_of_ble_eq_true rfl, Nat.le_of_ble_eq_true rfl⟩ dX6_rate_5 rfl (fun r1 μ1 hp1 => ?_)
  obtain ⟨rfl, rfl⟩ := hp1
  refine J.ifb_ne hG 14 dX6_rate_8 rfl (fun h8 => ?_) (fun h8 => ?_)
  · refine J.iload_n hG dX6_rate_14 rfl rfl ?_
    rcases (show w = 0 ∨ w = 1 ∨ w = 2 ∨ w = 3 ∨ w = 4 ∨ w = 5 ∨ (w < 0 ∨ 5 < w) by omega) with rfl | rfl | rfl | rfl | rfl | rfl | hw15
    · refine J.tabIn hG 52 dX6_rate_15 (by decide) (by decide) (off := 37) rfl rfl ?_
      refine J.aload_n hG dX6_rate_52 rfl rfl ?_
      refine J.iload_n hG dX6_rate_53 rfl rfl ?_
      refine J.callV hG (X6_rateAsLife _ hB _ (by omega)) ok_X6_rateAsLife ml_X6_228 rfl rfl rfl rfl (Nat.le_of_ble_eq_true rfl) ⟨Nat.le_of_ble_eq_true rfl, Nat.le_of_ble_eq_true rfl⟩ dX6_rate_54 rfl (fun r1 μ1 hp1 => ?_)
      obtain ⟨rfl, rfl⟩ := hp1
      refine J.iret hG dX6_rate_57 ?_
      rw [hX]; dsimp only
      rw [if_neg (by omega)]
      exact ⟨rfl, rfl⟩
    · refine J.tabIn hG 58 dX6_rate_15 (by decide) (by decide) (off := 43) rfl rfl ?_
      refine J.aload_n hG dX6_rate_58 rfl rfl ?_
      refine J.iload_n hG dX6_rate_59 rfl rfl ?_
      refine J.callV hG (X6_rateAsChild _ hB _ (by omega)) ok_X6_rateAsChild ml_X6_231 rfl rfl rfl rfl (Nat.le_of_ble_eq_true rfl) ⟨Nat.le_of_ble_eq_true rfl, Nat.le_of_ble_eq_true rfl⟩ dX6_rate_60 rfl (fun r1 μ1 hp1 => ?_)
      obtain ⟨rfl, rfl⟩ := hp1
      refine J.iret hG dX6_rate_63 ?_
      rw [hX]; dsimp only
      rw [if_neg (by omega)]
      exact ⟨rfl, rfl⟩
    · refine J.tabIn hG 64 dX6_rate_15 (by decide) (by decide) (off := 49) rfl rfl ?_
      refine J.aload_n hG dX6_rate_64 rfl rfl ?_
      refine J.iload_n hG dX6_rate_65 rfl rfl ?_
      refine J.callV hG (X6_rateAsFiance _ hB _ (by omega)) ok_X6_rateAsFiance ml_X6_234 rfl rfl rfl rfl (Nat.le_of_ble_eq_true rfl) ⟨Nat.le_of_ble_eq_true rfl, Nat.le_of_ble_eq_true rfl⟩ dX6_rate_66 rfl (fun r1 μ1 hp1 => ?_)
      obtain ⟨rfl, rfl⟩ := hp1
      refine J.iret hG dX6_rate_69 ?_
      rw [hX]; dsimp only
      rw [if_neg (by omega)]
      exact ⟨rfl, rfl⟩
    · refine J.tabIn hG 70 dX6_rate_15 (by decide) (by decide) (off := 55) rfl rfl ?_
      refine J.aload_n hG dX6_rate_70 rfl rfl ?_
      refine J.iload_n hG dX6_rate_71 rfl rfl ?_
      refine J.callV hG (X6_rateAsThirdSon _ hB _ (by omega)) ok_X6_rateAsThirdSon ml_X6_237 rfl rfl rfl rfl (Nat.le_of_ble_eq_true rfl) ⟨Nat.le_of_ble_eq_true rfl, Nat.le_of_ble_eq_true rfl⟩ dX6_rate_72 rfl (fun r1 μ1 hp1 => ?_)
      obtain ⟨rfl, rfl⟩ := hp1
      refine J.iret hG dX6_rate_75 ?_
      rw [hX]; dsimp only
      rw [if_neg (by omega)]
      exact ⟨rfl, rfl⟩
    · refine J.tabIn hG 76 dX6_rate_15 (by decide) (by decide) (off := 61) rfl rfl ?_
      refine J.aload_n hG dX6_rate_76 rfl rfl ?_
      refine J.iload_n hG dX6_rate_77 rfl rfl ?_
      refine J.callV hG (X6_rateAsWidow _ hB _ (by omega)) ok_X6_rateAsWidow ml_X6_240 rfl rfl rfl rfl (Nat.le_of_ble_eq_true rfl) ⟨Nat.le_of_ble_eq_true rfl, Nat.le_of_ble_eq_true rfl⟩ dX6_rate_78 rfl (fun r1 μ1 hp1 => ?_)
      obtain ⟨rfl, rfl⟩ := hp1
      refine J.iret hG dX6_rate_81 ?_
      rw [hX]; dsimp only
      rw [if_neg (by omega)]
      exact ⟨rfl, rfl⟩
    · refine J.tabIn hG 82 dX6_rate_15 (by decide) (by decide) (off := 67) rfl rfl ?_
      refine J.aload_n hG dX6_rate_82 rfl rfl ?_
      refine J.iload_n hG dX6_rate_83 rfl rfl ?_
      refine J.callV hG (X6_rateAsSmuggler _ hB _ (by omega)) ok_X6_rateAsSmuggler ml_X6_243 rfl rfl rfl rfl (Nat.le_of_ble_eq_true rfl) ⟨Nat.le_of_ble_eq_true rfl, Nat.le_of_ble_eq_true rfl⟩ dX6_rate_84 rfl (fun r1 μ1 hp1 => ?_)
      obtain ⟨rfl, rfl⟩ := hp1
      refine J.iret hG dX6_rate_87 ?_
      rw [hX]; dsimp only
      rw [if_neg (by omega)]
      exact ⟨rfl, rfl⟩
    · refine J.tabOut hG 88 dX6_rate_15 hw15 rfl ?_
      refine J.ldc hG (n := -1000000) dX6_rate_88 ct_X6_184 (by decide) (by decide) ?_
      refine J.iret hG dX6_rate_90 ?_
      rw [hX]; dsimp only
      rw [if_pos (by omega)]
      exact ⟨rfl, rfl⟩
  · refine J.ldc hG (n := -1000000) dX6_rate_11 ct_X6_184 (by decide) (by decide) ?_
    refine J.iret hG dX6_rate_13 ?_
    rw [hX]; dsimp only
    rw [if_pos (by omega)]
    exact ⟨rfl, rfl⟩


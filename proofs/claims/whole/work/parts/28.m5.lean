theorem mV_step {μ : Mem} (hB : MB μ) (y l s : Int) (hy : 0 ≤ y) (hl : 0 ≤ l ∧ l < μ 0 15) (hs : 0 ≤ s ∧ s < μ 0 14) : cl (μ 2 s) (mV μ 7 y l s + μ 5 (4 * l + s) - 3) = mV μ 7 (y + 1) l s := by
  have q5 := hB.2.2.2.2.1 s hs.1 hs.2
  have q6 := hB.2.2.2.2.2 l s hl.1 hl.2 hs.1 hs.2
  have e := cl_step (r := μ 2 s) (v := μ 7 (8 + 4 * l + s)) (d := μ 5 (4 * l + s) - 3) y (by omega) q6.2.2 hy
  unfold mV
  rw [← e]
  congr 1
  omega
def mEC (μ : Mem) (k t : Int) : Int := smf (fun y => smf (fun l => if mV μ 7 y l k < t ↔ mV μ 7 (y + 1) l k < t then 0 else 1) 0 (μ 0 15).toNat) 0 20
def JM (μ : Mem) (k y L : Int) (ν : Mem) : Prop := (∀ c : Nat, c ≠ 8 → ν c = μ c) ∧ ∀ l : Int, 0 ≤ l → l < μ 0 15 → ν 8 (8 + 4 * l + k) = if l < L then mV μ 7 (y + 1) l k else mV μ 7 y l k
theorem mEC_bound (μ : Mem) (k t : Int) (h : 0 ≤ μ 0 15 ∧ μ 0 15 ≤ 4) : 0 ≤ mEC μ k t ∧ mEC μ k t ≤ 80 := by
  have := smf_bound (f := fun y => smf (fun l => if mV μ 7 y l k < t ↔ mV μ 7 (y + 1) l k < t then 0 else 1) 0 (μ 0 15).toNat) (a := 0) (b := 4) 20 0 (fun i _ _ => by
    have := smf_bound (f := fun l => if mV μ 7 i l k < t ↔ mV μ 7 (i + 1) l k < t then 0 else 1) (a := 0) (b := 1) (μ 0 15).toNat 0 (fun i _ _ => by constructor <;> split <;> omega)
    omega)
  unfold mEC
  omega

set_option maxRecDepth 100000 in
set_option maxHeartbeats 4000000 in
theorem X7_jumpsOn (μ : Mem) (hB : MB μ) (k t : Int) (hk : 0 ≤ k ∧ k < μ 0 14) : CT TM md_X7_jumpsOn [aR 0, aI k, aI t] μ (fun rv μ1 => (∀ c : Nat, c ≠ 8 → μ1 c = μ c) ∧ rv = some (aI (mEC μ k t))) := by
  refine CT.of (Nat.le_of_ble_eq_true rfl) (by decide) rfl (Nat.le_of_ble_eq_true rfl) (fun X hG hX => ?_)
  have hG : G TM X RX7 cX7_jumpsOn 8 1 21 (some .int) := hG
  show J TM X 8 0 [some (aR 0), some (aI k), some (aI t), none, none, none, none, none] [] μ
  have hB2 := hB
  obtain ⟨h1, h2, h3, h4, h5, h6⟩ := hB2
  have lp : ∀ (n : Nat) (y : Int) (ν : Mem) (a : Int), 0 ≤ y → y + n = 20 → JM μ k y 0 ν → (0 ≤ a ∧ a ≤ 4 * y) → a + smf (fun y => smf (fun l => if mV μ 7 y l k < t ↔ mV μ 7 (y + 1) l k < t then 0 else 1) 0 (μ 0 15).toNat) y n = mEC μ k t → J TM X 8 9 [some (aR 0), some (aI k), some (aI t), some (aI a), some (aI y), none, none, none] [] ν := by
    intro n
    induction n with
    | zero =>
      intro y ν a i0 i1 hJ i2 i3
      simp only [smf, Int.add_zero] at i3
      refine J.iload hG dX7_jumpsOn_9 rfl ?_
      refine J.bipush hG dX7_jumpsOn_11 (by decide) (by decide) ?_
      refine J.icmp_ge hG 135 dX7_jumpsOn_13 rfl (fun h13 => ?_) (fun h13 => absurd h13 (by omega))
      refine J.iload_n hG dX7_jumpsOn_135 rfl rfl ?_
      refine J.iret hG dX7_jumpsOn_136 ?_
      rw [hX]; dsimp only
      exact ⟨hJ.1, by rw [i3]⟩
    | succ n ih =>
      intro y ν a i0 i1 hJ i2 i3
      have yb := smf_bound (f := (fun l => if mV μ 7 y l k < t ↔ mV μ 7 (y + 1) l k < t then 0 else 1)) (a := 0) (b := 1) (μ 0 15).toNat 0 (fun i _ _ => by constructor <;> split <;> omega)
      rw [smf] at i3
      have lp2 : ∀ (n2 : Nat) (l : Int) (ν : Mem) (a2 : Int), 0 ≤ l → l + n2 = μ 0 15 → JM μ k y l ν → (0 ≤ a2 ∧ a2 ≤ 4 * y + l) → a2 + smf (fun l => if mV μ 7 y l k < t ↔ mV μ 7 (y + 1) l k < t then 0 else 1) l n2 = a + smf (fun l => if mV μ 7 y l k < t ↔ mV μ 7 (y + 1) l k < t then 0 else 1) 0 (μ 0 15).toNat → J TM X 8 19 [some (aR 0), some (aI k), some (aI t), some (aI a2), some (aI y), some (aI l), none, none] [] ν := by
        intro n2
        induction n2 with
        | zero =>
          intro l ν a2 i8 i9 hJ j2 j3
          have e0 : ν 0 = μ 0 := hJ.1 0 (by decide)
          have e15 : ν 0 15 = μ 0 15 := by rw [e0]
          have e2 : ν 2 = μ 2 := hJ.1 2 (by decide)
          have e5 : ν 5 = μ 5 := hJ.1 5 (by decide)
          simp only [smf, Int.add_zero] at j3
          refine J.iload hG dX7_jumpsOn_19 rfl ?_
          refine J.aload_n hG dX7_jumpsOn_21 rfl rfl ?_
          refine J.getI hG ciX7 rfl 15 15 rfl (Nat.le_of_ble_eq_true rfl) rfl fl_X7_144 dX7_jumpsOn_22 ?_
          refine J.icmp_ge hG 129 dX7_jumpsOn_25 rfl (fun h25 => ?_) (fun h25 => absurd h25 (by omega))
          refine J.iinc hG dX7_jumpsOn_129 (Nat.le_of_ble_eq_true rfl) rfl (fun _ => (by omega)) ?_
          refine J.goto hG 9 dX7_jumpsOn_132 rfl ?_
          exact J.drop 5 (ih (y + 1) ν a2 (by omega) (by omega) ⟨hJ.1, fun l' c d => by rw [hJ.2 l' c d, if_pos (by omega), if_neg (by omega)]⟩ (by omega) (by rw [j3]; omega))
        | succ n2 ih2 =>
          intro l ν a2 i8 i9 hJ j2 j3
          rw [smf] at j3
          have e0 : ν 0 = μ 0 := hJ.1 0 (by decide)
          have e15 : ν 0 15 = μ 0 15 := by rw [e0]
          have e2 : ν 2 = μ 2 := hJ.1 2 (by decide)
          have e5 : ν 5 = μ 5 := hJ.1 5 (by decide)
          have q6 := h6 l k (by omega) (by omega) (by omega) (by omega)
          have qv : ν 8 (8 + 4 * l + k) = mV μ 7 y l k := by rw [hJ.2 l (by omega) (by omega), if_neg (by omega)]
          have qb := mV_bd hB 7 y l k hk
          have qb1 := mV_bd hB 7 (y + 1) l k hk
          have q5 := h5 k hk.1 hk.2
          have ev : cl (ν 2 k) (ν 8 (8 + 4 * l + k) + ν 5 (4 * l + k) - 3) = mV μ 7 (y + 1) l k := by rw [e2, e5, qv]; exact mV_step hB y l k (by omega) (by omega) hk
          have hJ2 : JM μ k y (l + 1) (up ν 8 (8 + 4 * l + k) (mV μ 7 (y + 1) l k)) := ⟨fun c hc => by rw [up_cell _ _ _ hc]; exact hJ.1 c hc, fun l' c d => by
            by_cases hll : l' = l
            · rw [hll, up_self, if_pos (by omega)]
            · rw [up_ne _ (fun z => hll (by omega)), hJ.2 l' c d]
              by_cases hl2 : l' < l
              · rw [if_pos hl2, if_pos (by omega)]
              · rw [if_neg hl2, if_neg (by omega)]⟩
          refine J.iload hG dX7_jumpsOn_19 rfl ?_
          refine J.aload_n hG dX7_jumpsOn_21 rfl rfl ?_
          refine J.getI hG ciX7 rfl 15 15 rfl (Nat.le_of_ble_eq_true rfl) rfl fl_X7_144 dX7_jumpsOn_22 ?_
          refine J.icmp_ge hG 129 dX7_jumpsOn_25 rfl (fun h25 => absurd h25 (by omega)) (fun h25 => ?_)
          refine J.bipush hG dX7_jumpsOn_28 (by decide) (by decide) ?_
          refine J.iconst hG dX7_jumpsOn_30 (by decide) ?_
          refine J.iload hG dX7_jumpsOn_31 rfl ?_
          refine J.imul hG dX7_jumpsOn_33 (fun _ _ => (by omega)) ?_
          refine J.iadd hG dX7_jumpsOn_34 (fun _ _ => (by omega)) ?_
          refine J.iload_n hG dX7_jumpsOn_35 rfl rfl ?_
          refine J.iadd hG dX7_jumpsOn_36 (fun _ _ => (by omega)) ?_
          refine J.istore hG dX7_jumpsOn_37 (Nat.le_of_ble_eq_true rfl) ?_
          refine J.aload_n hG dX7_jumpsOn_39 rfl rfl ?_
          refine J.getR hG ciX7 rfl 23 23 rfl (Nat.le_of_ble_eq_true rfl) rfl fl_X7_31 dX7_jumpsOn_40 ?_
          refine J.iload hG dX7_jumpsOn_43 rfl ?_
          refine J.iald hG rfl (by omega) (by omega) dX7_jumpsOn_45 ?_
          refine J.iload_n hG dX7_jumpsOn_46 rfl rfl ?_
          refine J.icmp_ge hG 54 dX7_jumpsOn_47 rfl (fun h47 => ?_) (fun h47 => ?_)
          · refine J.iconst hG dX7_jumpsOn_54 (by decide) ?_
            refine J.istore hG dX7_jumpsOn_55 (Nat.le_of_ble_eq_true rfl) ?_
            refine J.aload_n hG dX7_jumpsOn_57 rfl rfl ?_
            refine J.getR hG ciX7 rfl 23 23 rfl (Nat.le_of_ble_eq_true rfl) rfl fl_X7_31 dX7_jumpsOn_58 ?_
            refine J.iload hG dX7_jumpsOn_61 rfl ?_
            refine J.aload_n hG dX7_jumpsOn_63 rfl rfl ?_
            refine J.getR hG ciX7 rfl 23 23 rfl (Nat.le_of_ble_eq_true rfl) rfl fl_X7_31 dX7_jumpsOn_64 ?_
            refine J.iload hG dX7_jumpsOn_67 rfl ?_
            refine J.iald hG rfl (by omega) (by omega) dX7_jumpsOn_69 ?_
            refine J.aload_n hG dX7_jumpsOn_70 rfl rfl ?_
            refine J.getR hG ciX7 rfl 12 12 rfl (Nat.le_of_ble_eq_true rfl) rfl fl_X7_22 dX7_jumpsOn_71 ?_
            refine J.iconst hG dX7_jumpsOn_74 (by decide) ?_
            refine J.iload hG dX7_jumpsOn_75 rfl ?_
            refine J.imul hG dX7_jumpsOn_77 (fun _ _ => (by omega)) ?_
            refine J.iload_n hG dX7_jumpsOn_78 rfl rfl ?_
            refine J.iadd hG dX7_jumpsOn_79 (fun _ _ => (by omega)) ?_
            refine J.iald hG rfl (by omega) (by omega) dX7_jumpsOn_80 ?_
            refine J.iadd hG dX7_jumpsOn_81 (fun _ _ => (by rw [e5]; omega)) ?_
            refine J.iconst hG dX7_jumpsOn_82 (by decide) ?_
            refine J.isub hG dX7_jumpsOn_83 (fun _ _ => (by rw [e5]; omega)) ?_
            refine J.aload_n hG dX7_jumpsOn_84 rfl rfl ?_
            refine J.getR hG ciX7 rfl 9 9 rfl (Nat.le_of_ble_eq_true rfl) rfl fl_X7_13 dX7_jumpsOn_85 ?_
            refine J.iload_n hG dX7_jumpsOn_88 rfl rfl ?_
            refine J.iald hG rfl (by omega) (by omega) dX7_jumpsOn_89 ?_
            refine J.callS hG (X7_held _ _ _) ok_X7_held ml_X7_180 rfl (Nat.le_of_ble_eq_true rfl) ⟨Nat.le_of_ble_eq_true rfl, Nat.le_of_ble_eq_true rfl⟩ dX7_jumpsOn_90 rfl (fun r1 μ1 hp1 => ?_)
            obtain ⟨rfl, rfl⟩ := hp1
            rw [ev]
            refine J.iast hG rfl (by omega) (by omega) dX7_jumpsOn_93 ?_
            refine J.iload_n hG dX7_jumpsOn_94 rfl rfl ?_
            refine J.iload hG dX7_jumpsOn_95 rfl ?_
            refine J.aload_n hG dX7_jumpsOn_97 rfl rfl ?_
            refine J.getR hG ciX7 rfl 23 23 rfl (Nat.le_of_ble_eq_true rfl) rfl fl_X7_31 dX7_jumpsOn_98 ?_
            refine J.iload hG dX7_jumpsOn_101 rfl ?_
            refine J.iald hG rfl (by omega) (by omega) dX7_jumpsOn_103 ?_
            refine J.iload_n hG dX7_jumpsOn_104 rfl rfl ?_
            rw [up_self]
            refine J.icmp_ge hG 112 dX7_jumpsOn_105 rfl (fun h105 => ?_) (fun h105 => ?_)
            · refine J.iconst hG dX7_jumpsOn_112 (by decide) ?_
              refine J.icmp_ne hG 120 dX7_jumpsOn_113 rfl (fun h113 => ?_) (fun h113 => ?_)
              · refine J.iconst hG dX7_jumpsOn_120 (by decide) ?_
                refine J.iadd hG dX7_jumpsOn_121 (fun _ _ => (by omega)) ?_
                refine J.istore_n hG dX7_jumpsOn_122 rfl (Nat.le_of_ble_eq_true rfl) ?_
                refine J.iinc hG dX7_jumpsOn_123 (Nat.le_of_ble_eq_true rfl) rfl (fun _ => (by omega)) ?_
                refine J.goto hG 19 dX7_jumpsOn_126 rfl ?_
                rw [if_pos (by omega)] at j3
                exact J.drop 7 (J.drop 6 (ih2 (l + 1) _ _ (by omega) (by omega) hJ2 (by omega) (by omega)))
              · refine J.iconst hG dX7_jumpsOn_116 (by decide) ?_
                refine J.goto hG 121 dX7_jumpsOn_117 rfl ?_
                refine J.iadd hG dX7_jumpsOn_121 (fun _ _ => (by omega)) ?_
                refine J.istore_n hG dX7_jumpsOn_122 rfl (Nat.le_of_ble_eq_true rfl) ?_
                refine J.iinc hG dX7_jumpsOn_123 (Nat.le_of_ble_eq_true rfl) rfl (fun _ => (by omega)) ?_
                refine J.goto hG 19 dX7_jumpsOn_126 rfl ?_
                rw [if_pos (by omega)] at j3
                exact J.drop 7 (J.drop 6 (ih2 (l + 1) _ _ (by omega) (by omega) hJ2 (by omega) (by omega)))
            · refine J.iconst hG dX7_jumpsOn_108 (by decide) ?_
              refine J.goto hG 113 dX7_jumpsOn_109 rfl ?_
              refine J.icmp_ne hG 120 dX7_jumpsOn_113 rfl (fun h113 => ?_) (fun h113 => ?_)
              · refine J.iconst hG dX7_jumpsOn_120 (by decide) ?_
                refine J.iadd hG dX7_jumpsOn_121 (fun _ _ => (by omega)) ?_
                refine J.istore_n hG dX7_jumpsOn_122 rfl (Nat.le_of_ble_eq_true rfl) ?_
                refine J.iinc hG dX7_jumpsOn_123 (Nat.le_of_ble_eq_true rfl) rfl (fun _ => (by omega)) ?_
                refine J.goto hG 19 dX7_jumpsOn_126 rfl ?_
                rw [if_neg (by omega)] at j3
                exact J.drop 7 (J.drop 6 (ih2 (l + 1) _ _ (by omega) (by omega) hJ2 (by omega) (by omega)))
              · refine J.iconst hG dX7_jumpsOn_116 (by decide) ?_
                refine J.goto hG 121 dX7_jumpsOn_117 rfl ?_
                refine J.iadd hG dX7_jumpsOn_121 (fun _ _ => (by omega)) ?_
                refine J.istore_n hG dX7_jumpsOn_122 rfl (Nat.le_of_ble_eq_true rfl) ?_
                refine J.iinc hG dX7_jumpsOn_123 (Nat.le_of_ble_eq_true rfl) rfl (fun _ => (by omega)) ?_
                refine J.goto hG 19 dX7_jumpsOn_126 rfl ?_
                rw [if_neg (by omega)] at j3
                exact J.drop 7 (J.drop 6 (ih2 (l + 1) _ _ (by omega) (by omega) hJ2 (by omega) (by omega)))
          · refine J.iconst hG dX7_jumpsOn_50 (by decide) ?_
            refine J.goto hG 55 dX7_jumpsOn_51 rfl ?_
            refine J.istore hG dX7_jumpsOn_55 (Nat.le_of_ble_eq_true rfl) ?_
            refine J.aload_n hG dX7_jumpsOn_57 rfl rfl ?_
            refine J.getR hG ciX7 rfl 23 23 rfl (Nat.le_of_ble_eq_true rfl) rfl fl_X7_31 dX7_jumpsOn_58 ?_
            refine J.iload hG dX7_jumpsOn_61 rfl ?_
            refine J.aload_n hG dX7_jumpsOn_63 rfl rfl ?_
            refine J.getR hG ciX7 rfl 23 23 rfl (Nat.le_of_ble_eq_true rfl) rfl fl_X7_31 dX7_jumpsOn_64 ?_
            refine J.iload hG dX7_jumpsOn_67 rfl ?_
            refine J.iald hG rfl (by omega) (by omega) dX7_jumpsOn_69 ?_
            refine J.aload_n hG dX7_jumpsOn_70 rfl rfl ?_
            refine J.getR hG ciX7 rfl 12 12 rfl (Nat.le_of_ble_eq_true rfl) rfl fl_X7_22 dX7_jumpsOn_71 ?_
            refine J.iconst hG dX7_jumpsOn_74 (by decide) ?_
            refine J.iload hG dX7_jumpsOn_75 rfl ?_
            refine J.imul hG dX7_jumpsOn_77 (fun _ _ => (by omega)) ?_
            refine J.iload_n hG dX7_jumpsOn_78 rfl rfl ?_
            refine J.iadd hG dX7_jumpsOn_79 (fun _ _ => (by omega)) ?_
            refine J.iald hG rfl (by omega) (by omega) dX7_jumpsOn_80 ?_
            refine J.iadd hG dX7_jumpsOn_81 (fun _ _ => (by rw [e5]; omega)) ?_
            refine J.iconst hG dX7_jumpsOn_82 (by decide) ?_
            refine J.isub hG dX7_jumpsOn_83 (fun _ _ => (by rw [e5]; omega)) ?_
            refine J.aload_n hG dX7_jumpsOn_84 rfl rfl ?_
            refine J.getR hG ciX7 rfl 9 9 rfl (Nat.le_of_ble_eq_true rfl) rfl fl_X7_13 dX7_jumpsOn_85 ?_
            refine J.iload_n hG dX7_jumpsOn_88 rfl rfl ?_
            refine J.iald hG rfl (by omega) (by omega) dX7_jumpsOn_89 ?_
            refine J.callS hG (X7_held _ _ _) ok_X7_held ml_X7_180 rfl (Nat.le_of_ble_eq_true rfl) ⟨Nat.le_of_ble_eq_true rfl, Nat.le_of_ble_eq_true rfl⟩ dX7_jumpsOn_90 rfl (fun r1 μ1 hp1 => ?_)
            obtain ⟨rfl, rfl⟩ := hp1
            rw [ev]
            refine J.iast hG rfl (by omega) (by omega) dX7_jumpsOn_93 ?_
            refine J.iload_n hG dX7_jumpsOn_94 rfl rfl ?_
            refine J.iload hG dX7_jumpsOn_95 rfl ?_
            refine J.aload_n hG dX7_jumpsOn_97 rfl rfl ?_
            refine J.getR hG ciX7 rfl 23 23 rfl (Nat.le_of_ble_eq_true rfl) rfl fl_X7_31 dX7_jumpsOn_98 ?_
            refine J.iload hG dX7_jumpsOn_101 rfl ?_
            refine J.iald hG rfl (by omega) (by omega) dX7_jumpsOn_103 ?_
            refine J.iload_n hG dX7_jumpsOn_104 rfl rfl ?_
            rw [up_self]
            refine J.icmp_ge hG 112 dX7_jumpsOn_105 rfl (fun h105 => ?_) (fun h105 => ?_)
            · refine J.iconst hG dX7_jumpsOn_112 (by decide) ?_
              refine J.icmp_ne hG 120 dX7_jumpsOn_113 rfl (fun h113 => ?_) (fun h113 => ?_)
              · refine J.iconst hG dX7_jumpsOn_120 (by decide) ?_
                refine J.iadd hG dX7_jumpsOn_121 (fun _ _ => (by omega)) ?_
                refine J.istore_n hG dX7_jumpsOn_122 rfl (Nat.le_of_ble_eq_true rfl) ?_
                refine J.iinc hG dX7_jumpsOn_123 (Nat.le_of_ble_eq_true rfl) rfl (fun _ => (by omega)) ?_
                refine J.goto hG 19 dX7_jumpsOn_126 rfl ?_
                rw [if_neg (by omega)] at j3
                exact J.drop 7 (J.drop 6 (ih2 (l + 1) _ _ (by omega) (by omega) hJ2 (by omega) (by omega)))
              · refine J.iconst hG dX7_jumpsOn_116 (by decide) ?_
                refine J.goto hG 121 dX7_jumpsOn_117 rfl ?_
                refine J.iadd hG dX7_jumpsOn_121 (fun _ _ => (by omega)) ?_
                refine J.istore_n hG dX7_jumpsOn_122 rfl (Nat.le_of_ble_eq_true rfl) ?_
                refine J.iinc hG dX7_jumpsOn_123 (Nat.le_of_ble_eq_true rfl) rfl (fun _ => (by omega)) ?_
                refine J.goto hG 19 dX7_jumpsOn_126 rfl ?_
                rw [if_neg (by omega)] at j3
                exact J.drop 7 (J.drop 6 (ih2 (l + 1) _ _ (by omega) (by omega) hJ2 (by omega) (by omega)))
            · refine J.iconst hG dX7_jumpsOn_108 (by decide) ?_
              refine J.goto hG 113 dX7_jumpsOn_109 rfl ?_
              refine J.icmp_ne hG 120 dX7_jumpsOn_113 rfl (fun h113 => ?_) (fun h113 => ?_)
              · refine J.iconst hG dX7_jumpsOn_120 (by decide) ?_
                refine J.iadd hG dX7_jumpsOn_121 (fun _ _ => (by omega)) ?_
                refine J.istore_n hG dX7_jumpsOn_122 rfl (Nat.le_of_ble_eq_true rfl) ?_
                refine J.iinc hG dX7_jumpsOn_123 (Nat.le_of_ble_eq_true rfl) rfl (fun _ => (by omega)) ?_
                refine J.goto hG 19 dX7_jumpsOn_126 rfl ?_
                rw [if_pos (by omega)] at j3
                exact J.drop 7 (J.drop 6 (ih2 (l + 1) _ _ (by omega) (by omega) hJ2 (by omega) (by omega)))
              · refine J.iconst hG dX7_jumpsOn_116 (by decide) ?_
                refine J.goto hG 121 dX7_jumpsOn_117 rfl ?_
                refine J.iadd hG dX7_jumpsOn_121 (fun _ _ => (by omega)) ?_
                refine J.istore_n hG dX7_jumpsOn_122 rfl (Nat.le_of_ble_eq_true rfl) ?_
                refine J.iinc hG dX7_jumpsOn_123 (Nat.le_of_ble_eq_true rfl) rfl (fun _ => (by omega)) ?_
                refine J.goto hG 19 dX7_jumpsOn_126 rfl ?_
                rw [if_pos (by omega)] at j3
                exact J.drop 7 (J.drop 6 (ih2 (l + 1) _ _ (by omega) (by omega) hJ2 (by omega) (by omega)))
      refine J.iload hG dX7_jumpsOn_9 rfl ?_
      refine J.bipush hG dX7_jumpsOn_11 (by decide) (by decide) ?_
      refine J.icmp_ge hG 135 dX7_jumpsOn_13 rfl (fun h13 => absurd h13 (by omega)) (fun h13 => ?_)
      refine J.iconst hG dX7_jumpsOn_16 (by decide) ?_
      refine J.istore hG dX7_jumpsOn_17 (Nat.le_of_ble_eq_true rfl) ?_
      exact lp2 (μ 0 15).toNat 0 ν a (Int.le_refl _) (by omega) hJ (by omega) rfl
  refine J.aload_n hG dX7_jumpsOn_0 rfl rfl ?_
  refine J.callV hG (X7_asNow _) ok_X7_asNow ml_X7_211 rfl rfl rfl rfl (Nat.le_of_ble_eq_true rfl) ⟨Nat.le_of_ble_eq_true rfl, Nat.le_of_ble_eq_true rfl⟩ dX7_jumpsOn_1 rfl (fun r1 α hp1 => ?_)
  obtain ⟨rfl, an1, an2⟩ := hp1
  have han : AsN μ α := ⟨an1, an2⟩
  have hBa := AsN_MB hB han
  have hRa := AsN_RB hB han
  have ea24 := an2 24 (by decide) (by decide)
  have ea25 := an2 25 (by decide) (by decide)
  have ea0 : α 0 = μ 0 := an1 0 (by decide)
  refine J.iconst hG dX7_jumpsOn_4 (by decide) ?_
  refine J.istore_n hG dX7_jumpsOn_5 rfl (Nat.le_of_ble_eq_true rfl) ?_
  refine J.iconst hG dX7_jumpsOn_6 (by decide) ?_
  refine J.istore hG dX7_jumpsOn_7 (Nat.le_of_ble_eq_true rfl) ?_
  exact lp 20 0 α 0 (Int.le_refl _) (by omega) ⟨an1, fun l' c d => by rw [if_neg (by omega), an2 _ (by omega) (by omega)]; have q := h6 l' k c d hk.1 hk.2; unfold mV cl; rw [Int.zero_mul, Int.add_zero, if_neg (by omega), if_neg (by omega)]⟩ (by omega) (by unfold mEC; omega)

def mBJ (μ : Mem) (s : Int) : Int × Int := bj (mEC μ s) (μ 2 s - 1).toNat 2 1 (mEC μ s 1)
theorem mEC_of {μ ν : Mem} (h : ∀ c : Nat, c ≠ 8 → ν c = μ c) (k t : Int) : mEC ν k t = mEC μ k t := by
  unfold mEC mV
  rw [h 0 (by decide), h 2 (by decide), h 5 (by decide), h 7 (by decide)]
theorem MB_8 {μ ν : Mem} (hB : MB μ) (h : ∀ c : Nat, c ≠ 8 → ν c = μ c) : MB ν := MB_of hB (h 0 (by decide)) (h 2 (by decide)) (h 5 (by decide)) (h 7 (by decide))

set_option maxRecDepth 100000 in
set_option maxHeartbeats 4000000 in
theorem X7_bestJump (μ0 μ : Mem) (hμ : μ = th μ0) (hB : MB μ) (s w : Int) : CT TM md_X7_bestJump [aR 0, aI s, aI w] μ0 (fun rv μ1 => (∀ c : Nat, c ≠ 8 → μ1 c = μ c) ∧ rv = some (aI (if (0 ≤ s ∧ s < μ 0 14) ∧ (0 ≤ w ∧ w ≤ 1) then (if w = 0 then (mBJ μ s).1 else (mBJ μ s).2) else -1))) := by
  refine CT.of (Nat.le_of_ble_eq_true rfl) (by decide) rfl (Nat.le_of_ble_eq_true rfl) (fun X hG hX => ?_)
  have hG : G TM X RX7 cX7_bestJump 7 2 48 (some .int) := hG
  show J TM X 7 0 [some (aR 0), some (aI s), some (aI w), none, none, none, none] [] μ0
  refine J.aload_n hG dX7_bestJump_0 rfl rfl ?_
  refine J.iconst hG dX7_bestJump_1 (by decide) ?_
  refine J.putI hG ciX7 rfl 0 0 rfl (Nat.le_of_ble_eq_true rfl) rfl fl_X7_75 rfl rfl dX7_bestJump_2 ?_
  show J TM X 7 5 [some (aR 0), some (aI s), some (aI w), none, none, none, none] [] (th μ0)
  rw [← hμ]
  have hB2 := hB
  obtain ⟨h1, h2, h3, h4, h5, h6⟩ := hB2
  refine J.aload_n hG dX7_bestJump_5 rfl rfl ?_
  refine J.iload_n hG dX7_bestJump_6 rfl rfl ?_
  refine J.callV hG (X7_isScale _ _ (by omega)) ok_X7_isScale ml_X7_159 rfl rfl rfl rfl (Nat.le_of_ble_eq_true rfl) ⟨Nat.le_of_ble_eq_true rfl, Nat.le_of_ble_eq_true rfl⟩ dX7_bestJump_7 rfl (fun r1 μ1 hp1 => ?_)
  obtain ⟨rfl, rfl⟩ := hp1
  refine J.ifb_eq hG 22 dX7_bestJump_10 rfl (fun h10 => ?_) (fun h10 => ?_)
  · refine J.iconst hG dX7_bestJump_22 (by decide) ?_
    refine J.iret hG dX7_bestJump_23 ?_
    rw [hX]; dsimp only
    exact ⟨fun _ _ => rfl, by rw [if_neg (by omega)]⟩
  · refine J.iload_n hG dX7_bestJump_13 rfl rfl ?_
    refine J.iconst hG dX7_bestJump_14 (by decide) ?_
    refine J.iconst hG dX7_bestJump_15 (by decide) ?_
    refine J.callS hG (X7_in _ _ _ _) ok_X7_in ml_X7_78 rfl (Nat.le_of_ble_eq_true rfl) ⟨Nat.le_of_ble_eq_true rfl, Nat.le_of_ble_eq_true rfl⟩ dX7_bestJump_16 rfl (fun r1 μ1 hp1 => ?_)
    obtain ⟨rfl, rfl⟩ := hp1
    refine J.ifb_ne hG 24 dX7_bestJump_19 rfl (fun h19 => ?_) (fun h19 => ?_)
    · refine J.bipush hG dX7_bestJump_24 (by decide) (by decide) ?_
      refine J.istore_n hG dX7_bestJump_26 rfl (Nat.le_of_ble_eq_true rfl) ?_
      refine J.bipush hG dX7_bestJump_27 (by decide) (by decide) ?_
      refine J.istore hG dX7_bestJump_29 (Nat.le_of_ble_eq_true rfl) ?_
      refine J.iconst hG dX7_bestJump_31 (by decide) ?_
      refine J.istore hG dX7_bestJump_32 (Nat.le_of_ble_eq_true rfl) ?_
      have q5 := h5 s (by omega) (by omega)
      have lp : ∀ (k : Nat) (t : Int) (ν : Mem) (b f : Int), 2 ≤ t → t + k = μ 2 s + 1 → (∀ c : Nat, c ≠ 8 → ν c = μ c) → (1 ≤ b) → (bj (mEC μ s) k t b f = mBJ μ s) → J TM X 7 34 [some (aR 0), some (aI s), some (aI w), some (aI b), some (aI f), some (aI t), none] [] ν := by
        intro k
        induction k with
        | zero =>
          intro t ν b f i0 i1 hF ib i2
          have e0 : ν 0 = μ 0 := hF 0 (by decide)
          have e14 : ν 0 14 = μ 0 14 := by rw [e0]
          have e2 : ν 2 s = μ 2 s := by rw [hF 2 (by decide)]
          refine J.iload hG dX7_bestJump_34 rfl ?_
          refine J.aload_n hG dX7_bestJump_36 rfl rfl ?_
          refine J.getR hG ciX7 rfl 9 9 rfl (Nat.le_of_ble_eq_true rfl) rfl fl_X7_13 dX7_bestJump_37 ?_
          refine J.iload_n hG dX7_bestJump_40 rfl rfl ?_
          refine J.iald hG rfl (by omega) (by omega) dX7_bestJump_41 ?_
          refine J.icmp_gt hG 80 dX7_bestJump_42 rfl (fun h42 => ?_) (fun h42 => absurd h42 (by omega))
          refine J.iload_n hG dX7_bestJump_80 rfl rfl ?_
          refine J.if_ne hG 88 dX7_bestJump_81 rfl (fun h81 => ?_) (fun h81 => ?_)
          · refine J.iload hG dX7_bestJump_88 rfl ?_
            refine J.iret hG dX7_bestJump_90 ?_
            rw [hX]; dsimp only
            exact ⟨hF, by rw [if_pos (by omega), ← i2]; congr 2; (split <;> first | rfl | (exfalso; omega))⟩
          · refine J.iload_n hG dX7_bestJump_84 rfl rfl ?_
            refine J.goto hG 90 dX7_bestJump_85 rfl ?_
            refine J.iret hG dX7_bestJump_90 ?_
            rw [hX]; dsimp only
            exact ⟨hF, by rw [if_pos (by omega), ← i2]; congr 2; (split <;> first | rfl | (exfalso; omega))⟩
        | succ k ih =>
          intro t ν b f i0 i1 hF ib i2
          have e0 : ν 0 = μ 0 := hF 0 (by decide)
          have e14 : ν 0 14 = μ 0 14 := by rw [e0]
          have e2 : ν 2 s = μ 2 s := by rw [hF 2 (by decide)]
          rw [bj] at i2
          refine J.iload hG dX7_bestJump_34 rfl ?_
          refine J.aload_n hG dX7_bestJump_36 rfl rfl ?_
          refine J.getR hG ciX7 rfl 9 9 rfl (Nat.le_of_ble_eq_true rfl) rfl fl_X7_13 dX7_bestJump_37 ?_
          refine J.iload_n hG dX7_bestJump_40 rfl rfl ?_
          refine J.iald hG rfl (by omega) (by omega) dX7_bestJump_41 ?_
          refine J.icmp_gt hG 80 dX7_bestJump_42 rfl (fun h42 => absurd h42 (by omega)) (fun h42 => ?_)
          refine J.aload_n hG dX7_bestJump_45 rfl rfl ?_
          refine J.iload_n hG dX7_bestJump_46 rfl rfl ?_
          refine J.iload hG dX7_bestJump_47 rfl ?_
          refine J.callV hG (X7_jumpsOn _ (MB_8 hB hF) _ _ (by omega)) ok_X7_jumpsOn ml_X7_218 rfl rfl rfl rfl (Nat.le_of_ble_eq_true rfl) ⟨Nat.le_of_ble_eq_true rfl, Nat.le_of_ble_eq_true rfl⟩ dX7_bestJump_49 rfl (fun r1 ν1 hp1 => ?_)
          obtain ⟨jf, rfl⟩ := hp1
          rw [mEC_of hF]
          have hF1 : ∀ c : Nat, c ≠ 8 → ν1 c = μ c := fun c hc => by rw [jf c hc, hF c hc]
          refine J.istore hG dX7_bestJump_52 (Nat.le_of_ble_eq_true rfl) ?_
          refine J.iload_n hG dX7_bestJump_54 rfl rfl ?_
          refine J.bipush hG dX7_bestJump_55 (by decide) (by decide) ?_
          refine J.icmp_eq hG 67 dX7_bestJump_57 rfl (fun h57 => absurd h57 (by omega)) (fun h57 => ?_)
          refine J.iload hG dX7_bestJump_60 rfl ?_
          refine J.iload hG dX7_bestJump_62 rfl ?_
          refine J.icmp_ge hG 74 dX7_bestJump_64 rfl (fun h64 => ?_) (fun h64 => ?_)
          · refine J.iinc hG dX7_bestJump_74 (Nat.le_of_ble_eq_true rfl) rfl (fun _ => (by omega)) ?_
            refine J.goto hG 34 dX7_bestJump_77 rfl ?_
            rw [if_neg (by omega)] at i2
            exact J.drop 6 (ih (t + 1) ν1 _ _ (by omega) (by omega) hF1 (by omega) i2)
          · refine J.iload hG dX7_bestJump_67 rfl ?_
            refine J.istore_n hG dX7_bestJump_69 rfl (Nat.le_of_ble_eq_true rfl) ?_
            refine J.iload hG dX7_bestJump_70 rfl ?_
            refine J.istore hG dX7_bestJump_72 (Nat.le_of_ble_eq_true rfl) ?_
            refine J.iinc hG dX7_bestJump_74 (Nat.le_of_ble_eq_true rfl) rfl (fun _ => (by omega)) ?_
            refine J.goto hG 34 dX7_bestJump_77 rfl ?_
            rw [if_pos (by omega)] at i2
            exact J.drop 6 (ih (t + 1) ν1 _ _ (by omega) (by omega) hF1 (by omega) i2)
      have hF : ∀ c : Nat, c ≠ 8 → μ c = μ c := fun _ _ => rfl
      have s1 : J TM X 7 34 [some (aR 0), some (aI s), some (aI w), some (aI (-9)), some (aI (-9)), some (aI 1), none] [] μ := by
        refine J.iload hG dX7_bestJump_34 rfl ?_
        refine J.aload_n hG dX7_bestJump_36 rfl rfl ?_
        refine J.getR hG ciX7 rfl 9 9 rfl (Nat.le_of_ble_eq_true rfl) rfl fl_X7_13 dX7_bestJump_37 ?_
        refine J.iload_n hG dX7_bestJump_40 rfl rfl ?_
        refine J.iald hG rfl (by omega) (by omega) dX7_bestJump_41 ?_
        refine J.icmp_gt hG 80 dX7_bestJump_42 rfl (fun h42 => absurd h42 (by omega)) (fun h42 => ?_)
        refine J.aload_n hG dX7_bestJump_45 rfl rfl ?_
        refine J.iload_n hG dX7_bestJump_46 rfl rfl ?_
        refine J.iload hG dX7_bestJump_47 rfl ?_
        refine J.callV hG (X7_jumpsOn _ hB _ _ (by omega)) ok_X7_jumpsOn ml_X7_218 rfl rfl rfl rfl (Nat.le_of_ble_eq_true rfl) ⟨Nat.le_of_ble_eq_true rfl, Nat.le_of_ble_eq_true rfl⟩ dX7_bestJump_49 rfl (fun r1 ν1 hp1 => ?_)
        obtain ⟨jf, rfl⟩ := hp1
        refine J.istore hG dX7_bestJump_52 (Nat.le_of_ble_eq_true rfl) ?_
        refine J.iload_n hG dX7_bestJump_54 rfl rfl ?_
        refine J.bipush hG dX7_bestJump_55 (by decide) (by decide) ?_
        refine J.icmp_eq hG 67 dX7_bestJump_57 rfl (fun h57 => ?_) (fun h57 => absurd h57 (by omega))
        refine J.iload hG dX7_bestJump_67 rfl ?_
        refine J.istore_n hG dX7_bestJump_69 rfl (Nat.le_of_ble_eq_true rfl) ?_
        refine J.iload hG dX7_bestJump_70 rfl ?_
        refine J.istore hG dX7_bestJump_72 (Nat.le_of_ble_eq_true rfl) ?_
        refine J.iinc hG dX7_bestJump_74 (Nat.le_of_ble_eq_true rfl) rfl (fun _ => (by omega)) ?_
        refine J.goto hG 34 dX7_bestJump_77 rfl ?_
        exact J.drop 6 (lp (μ 2 s - 1).toNat (1 + 1) ν1 _ _ (by omega) (by omega) jf (by omega) rfl)
      exact s1
    · refine J.iconst hG dX7_bestJump_22 (by decide) ?_
      refine J.iret hG dX7_bestJump_23 ?_
      rw [hX]; dsimp only
      exact ⟨fun _ _ => rfl, by rw [if_neg (by omega)]⟩

/-- behind notes(): one more row is known, the oldest of ten is lost -/
def MN (μ μ1 : Mem) : Prop := (∀ c : Nat, c ≠ 0 → c ≠ 11 → μ1 c = μ c) ∧ (∀ j : Int, j ≠ 27 → μ1 0 j = μ 0 j) ∧ (μ1 0 27 = if μ 0 27 = 10 then 10 else μ 0 27 + 1) ∧ (∀ j : Int, 0 ≤ j → j < 26 * (μ1 0 27 - 1) → μ1 11 j = μ 11 (j + if μ 0 27 = 10 then 26 else 0)) ∧ ∀ j : Int, 0 ≤ j → j < 26 → μ1 11 (26 * (μ1 0 27 - 1) + j) = μ 7 j
set_option maxRecDepth 100000 in
set_option maxHeartbeats 4000000 in
theorem X7_notes (μ : Mem) (hu : 0 ≤ μ 0 27 ∧ μ 0 27 ≤ 10) : CT TM md_X7_notes [aR 0] μ (fun rv μ1 => rv = none ∧ MN μ μ1) := by
  refine CT.of (Nat.le_of_ble_eq_true rfl) (by decide) rfl (Nat.le_of_ble_eq_true rfl) (fun X hG hX => ?_)
  have hG : G TM X RX7 cX7_notes 2 0 0 none := hG
  show J TM X 2 0 [some (aR 0), none] [] μ
  have l2 : ∀ (β : Mem) (u d : Int), (0 ≤ u ∧ u ≤ 9) → β 0 27 = u → (∀ c : Nat, c ≠ 0 → c ≠ 11 → β c = μ c) → (∀ j : Int, j ≠ 27 → β 0 j = μ 0 j) → (u + 1 = if μ 0 27 = 10 then 10 else μ 0 27 + 1) → (d = if μ 0 27 = 10 then 26 else 0) → (∀ j : Int, 0 ≤ j → j < 26 * u → β 11 j = μ 11 (j + d)) → J TM X 2 45 [some (aR 0), none] [] β := by
    intro β u d hu hb hf0 hf1 hun hd hold
    have lp : ∀ (k : Nat) (i : Int) (ν : Mem), 0 ≤ i → i + k = 26 → (∀ c : Nat, c ≠ 11 → ν c = β c) → (∀ j : Int, 0 ≤ j → j < 26 * u → ν 11 j = β 11 j) → (∀ j : Int, 0 ≤ j → j < i → ν 11 (26 * u + j) = μ 7 j) → J TM X 2 47 [some (aR 0), some (aI i)] [] ν := by
      intro k
      induction k with
      | zero =>
        intro i ν i0 i1 gF gA gB
        have e27 : ν 0 27 = u := by rw [gF 0 (by decide), hb]
        refine J.iload_n hG dX7_notes_47 rfl rfl ?_
        refine J.bipush hG dX7_notes_48 (by decide) (by decide) ?_
        refine J.icmp_ge hG 79 dX7_notes_50 rfl (fun h50 => ?_) (fun h50 => absurd h50 (by omega))
        refine J.aload_n hG dX7_notes_79 rfl rfl ?_
        refine J.dup hG dX7_notes_80 (fun _ => rfl) ?_
        refine J.getI hG ciX7 rfl 27 27 rfl (Nat.le_of_ble_eq_true rfl) rfl fl_X7_150 dX7_notes_81 ?_
        refine J.iconst hG dX7_notes_84 (by decide) ?_
        refine J.iadd hG dX7_notes_85 (fun _ _ => (by rw [e27]; omega)) ?_
        refine J.putI hG ciX7 rfl 27 27 rfl (Nat.le_of_ble_eq_true rfl) rfl fl_X7_150 rfl rfl dX7_notes_86 ?_
        refine J.vret hG dX7_notes_89 ?_
        rw [hX]; dsimp only
        refine ⟨rfl, fun c a b => by rw [up_cell _ _ _ a, gF c b, hf0 c a b], fun j hj => by rw [up_ne _ (fun z => hj z.2), gF 0 (by decide), hf1 j hj], ?_, ?_, ?_⟩
        · rw [up_self, e27]; exact hun
        · intro j a b
          rw [up_self, e27] at b
          rw [up_cell _ _ _ (by decide), gA j a (by omega), hold j a (by omega), hd]
        · intro j a b
          rw [up_self, e27, up_cell _ _ _ (by decide), show 26 * (u + 1 - 1) + j = 26 * u + j by omega]
          exact gB j a (by omega)
      | succ k ih =>
        intro i ν i0 i1 gF gA gB
        have e27 : ν 0 27 = u := by rw [gF 0 (by decide), hb]
        have e7 : ν 7 = μ 7 := by rw [gF 7 (by decide), hf0 7 (by decide) (by decide)]
        refine J.iload_n hG dX7_notes_47 rfl rfl ?_
        refine J.bipush hG dX7_notes_48 (by decide) (by decide) ?_
        refine J.icmp_ge hG 79 dX7_notes_50 rfl (fun h50 => absurd h50 (by omega)) (fun h50 => ?_)
        refine J.aload_n hG dX7_notes_53 rfl rfl ?_
        refine J.getR hG ciX7 rfl 26 26 rfl (Nat.le_of_ble_eq_true rfl) rfl fl_X7_41 dX7_notes_54 ?_
        refine J.bipush hG dX7_notes_57 (by decide) (by decide) ?_
        refine J.aload_n hG dX7_notes_59 rfl rfl ?_
        refine J.getI hG ciX7 rfl 27 27 rfl (Nat.le_of_ble_eq_true rfl) rfl fl_X7_150 dX7_notes_60 ?_
        refine J.imul hG dX7_notes_63 (fun _ _ => (by rw [e27]; omega)) ?_
        refine J.iload_n hG dX7_notes_64 rfl rfl ?_
        refine J.iadd hG dX7_notes_65 (fun _ _ => (by rw [e27]; omega)) ?_
        refine J.aload_n hG dX7_notes_66 rfl rfl ?_
        refine J.getR hG ciX7 rfl 22 22 rfl (Nat.le_of_ble_eq_true rfl) rfl fl_X7_28 dX7_notes_67 ?_
        refine J.iload_n hG dX7_notes_70 rfl rfl ?_
        refine J.iald hG rfl (by omega) (by omega) dX7_notes_71 ?_
        refine J.iast hG rfl (by rw [e27]; omega) (by rw [e27]; omega) dX7_notes_72 ?_
        refine J.iinc hG dX7_notes_73 (Nat.le_of_ble_eq_true rfl) rfl (fun _ => (by omega)) ?_
        refine J.goto hG 47 dX7_notes_76 rfl ?_
        exact ih (i + 1) _ (by omega) (by omega) (fun c hc => by rw [up_cell _ _ _ hc, gF c hc]) (fun j a b => by rw [e27, up_ne _ (fun z => by omega)]; exact gA j a b) (fun j a b => by rw [e27]; by_cases hj : j = i; rw [hj, up_self, e7]; rw [up_ne _ (fun z => hj (by omega))]; exact gB j a (by omega))
    refine J.iconst hG dX7_notes_45 (by decide) ?_
    refine J.istore_n hG dX7_notes_46 rfl (Nat.le_of_ble_eq_true rfl) ?_
    exact lp 26 0 β (Int.le_refl _) (by omega) (fun _ _ => rfl) (fun _ _ _ => rfl) (fun j a b => absurd b (by omega))
  refine J.aload_n hG dX7_notes_0 rfl rfl ?_
  refine J.getI hG ciX7 rfl 27 27 rfl (Nat.le_of_ble_eq_true rfl) rfl fl_X7_150 dX7_notes_1 ?_
  refine J.bipush hG dX7_notes_4 (by decide) (by decide) ?_
  refine J.icmp_ne hG 45 dX7_notes_6 rfl (fun h6 => ?_) (fun h6 => ?_)
  · exact l2 μ (μ 0 27) 0 (by omega) rfl (fun _ _ _ => rfl) (fun _ _ => rfl) (by rw [if_neg (by omega)]) (by rw [if_neg (by omega)]) (fun j a b => by rw [Int.add_zero])
  · refine J.iconst hG dX7_notes_9 (by decide) ?_
    refine J.istore_n hG dX7_notes_10 rfl (Nat.le_of_ble_eq_true rfl) ?_
    have h10 : μ 0 27 = 10 := by omega
    have lq : ∀ (k : Nat) (i : Int) (ν : Mem), 0 ≤ i → i + k = 234 → (∀ c : Nat, c ≠ 11 → ν c = μ c) → (∀ j : Int, 0 ≤ j → ν 11 j = if j < i then μ 11 (j + 26) else μ 11 j) → J TM X 2 11 [some (aR 0), some (aI i)] [] ν := by
      intro k
      induction k with
      | zero =>
        intro i ν i0 i1 hF hA
        refine J.iload_n hG dX7_notes_11 rfl rfl ?_
        refine J.sipush hG dX7_notes_12 (by decide) (by decide) ?_
        refine J.icmp_ge hG 39 dX7_notes_15 rfl (fun h15 => ?_) (fun h15 => absurd h15 (by omega))
        refine J.aload_n hG dX7_notes_39 rfl rfl ?_
        refine J.bipush hG dX7_notes_40 (by decide) (by decide) ?_
        refine J.putI hG ciX7 rfl 27 27 rfl (Nat.le_of_ble_eq_true rfl) rfl fl_X7_150 rfl rfl dX7_notes_42 ?_
        exact J.drop 1 (l2 _ 9 26 (by omega) (by rw [up_self]) (fun c a b => by rw [up_cell _ _ _ a, hF c b]) (fun j hj => by rw [up_ne _ (fun z => hj z.2), hF 0 (by decide)]) (by rw [if_pos h10]; omega) (by rw [if_pos h10]) (fun j a b => by rw [up_cell _ _ _ (by decide), hA j a, if_pos (by omega)]))
      | succ k ih =>
        intro i ν i0 i1 hF hA
        refine J.iload_n hG dX7_notes_11 rfl rfl ?_
        refine J.sipush hG dX7_notes_12 (by decide) (by decide) ?_
        refine J.icmp_ge hG 39 dX7_notes_15 rfl (fun h15 => absurd h15 (by omega)) (fun h15 => ?_)
        refine J.aload_n hG dX7_notes_18 rfl rfl ?_
        refine J.getR hG ciX7 rfl 26 26 rfl (Nat.le_of_ble_eq_true rfl) rfl fl_X7_41 dX7_notes_19 ?_
        refine J.iload_n hG dX7_notes_22 rfl rfl ?_
        refine J.aload_n hG dX7_notes_23 rfl rfl ?_
        refine J.getR hG ciX7 rfl 26 26 rfl (Nat.le_of_ble_eq_true rfl) rfl fl_X7_41 dX7_notes_24 ?_
        refine J.iload_n hG dX7_notes_27 rfl rfl ?_
        refine J.bipush hG dX7_notes_28 (by decide) (by decide) ?_
        refine J.iadd hG dX7_notes_30 (fun _ _ => (by omega)) ?_
        refine J.iald hG rfl (by omega) (by omega) dX7_notes_31 ?_
        refine J.iast hG rfl (by omega) (by omega) dX7_notes_32 ?_
        refine J.iinc hG dX7_notes_33 (Nat.le_of_ble_eq_true rfl) rfl (fun _ => (by omega)) ?_
        refine J.goto hG 11 dX7_notes_36 rfl ?_
        exact ih (i + 1) _ (by omega) (by omega) (fun c hc => by rw [up_cell _ _ _ hc, hF c hc]) (fun j a => by by_cases hj : j = i; rw [hj, up_self, if_pos (by omega), hA (i + 26) (by omega), if_neg (by omega)]; rw [up_ne _ (fun z => hj z.2), hA j a]; by_cases hl : j < i; rw [if_pos hl, if_pos (by omega)]; rw [if_neg hl, if_neg (by omega)])
    exact lq 234 0 μ (Int.le_refl _) (by omega) (fun _ _ => rfl) (fun j a => by rw [if_neg (by omega)])


def mV1 (μ : Mem) (c : Nat) (l s : Int) : Int := cl (μ 2 s) (μ c (8 + 4 * l + s) + μ 5 (4 * l + s) - 3)
def mJn (μ : Mem) (c : Nat) : Int := smf (fun l => smf (fun s => if mEn μ c s (mV1 μ c l s) = mE μ c l s then 0 else 1) 0 (μ 0 14).toNat) 0 (μ 0 15).toNat
/-- one year gone by on a row of now -/
def MGo (c : Nat) (μ μ1 : Mem) : Prop := (∀ d : Nat, d ≠ c → μ1 d = μ d) ∧ (∀ j : Int, 0 ≤ j → j < 8 → μ1 c j = μ c j) ∧ μ1 c 24 = μ c 24 + 1 ∧ μ1 c 25 = μ c 25 + mJn μ c ∧ ∀ l s : Int, 0 ≤ l → l < μ 0 15 → 0 ≤ s → s < μ 0 14 → μ1 c (8 + 4 * l + s) = mV1 μ c l s
def IM (c : Nat) (μ : Mem) (l s : Int) (ν : Mem) : Prop := (∀ d : Nat, d ≠ c → ν d = μ d) ∧ (∀ j : Int, 0 ≤ j → j < 8 → ν c j = μ c j) ∧ ν c 24 = μ c 24 ∧ ∀ l' s' : Int, 0 ≤ l' → l' < μ 0 15 → 0 ≤ s' → s' < μ 0 14 → ν c (8 + 4 * l' + s') = if l' < l ∨ (l' = l ∧ s' < s) then mV1 μ c l' s' else μ c (8 + 4 * l' + s')
theorem IM_j {c : Nat} {μ ν : Mem} {l s : Int} (x : Int) (hb : μ 0 14 ≤ 4 ∧ μ 0 15 ≤ 4) (h : IM c μ l s ν) : IM c μ l s (up ν c 25 x) := ⟨fun d hd => by rw [up_cell _ _ _ hd]; exact h.1 d hd, fun j a b => by rw [up_ne _ (fun w => by omega)]; exact h.2.1 j a b, by rw [up_ne _ (fun w => by omega)]; exact h.2.2.1, fun l' s' a b c d => by rw [up_ne _ (fun w => by omega)]; exact h.2.2.2 l' s' a b c d⟩
theorem IM_v {c : Nat} {μ ν : Mem} {l s : Int} (hb : μ 0 14 ≤ 4 ∧ μ 0 15 ≤ 4) (h : IM c μ l s ν) (hl : 0 ≤ l ∧ l < μ 0 15) (hs : 0 ≤ s ∧ s < μ 0 14) : IM c μ l (s + 1) (up ν c (8 + 4 * l + s) (mV1 μ c l s)) := ⟨fun d hd => by rw [up_cell _ _ _ hd]; exact h.1 d hd, fun j a b => by rw [up_ne _ (fun w => by omega)]; exact h.2.1 j a b, by rw [up_ne _ (fun w => by omega)]; exact h.2.2.1, fun l' s' a b c' d => by
  by_cases q : l' = l ∧ s' = s
  · rw [q.1, q.2, up_self, if_pos (by omega)]
  · rw [up_ne _ (fun z => q (by omega)), h.2.2.2 l' s' a b c' d]
    by_cases q2 : l' < l ∨ (l' = l ∧ s' < s)
    · rw [if_pos q2, if_pos (by omega)]
    · rw [if_neg q2, if_neg (by omega)]⟩
theorem IM_next {c : Nat} {μ ν : Mem} {l : Int} (h : IM c μ l (μ 0 14) ν) : IM c μ (l + 1) 0 ν := ⟨h.1, h.2.1, h.2.2.1, fun l' s' a b c' d => by
  rw [h.2.2.2 l' s' a b c' d]
  by_cases q2 : l' < l ∨ (l' = l ∧ s' < μ 0 14)
  · rw [if_pos q2, if_pos (by omega)]
  · rw [if_neg q2, if_neg (by omega)]⟩
theorem mV1_bd {μ : Mem} (hB : MB μ) (c : Nat) (l s : Int) (hs : 0 ≤ s ∧ s < μ 0 14) : 0 ≤ mV1 μ c l s ∧ mV1 μ c l s ≤ μ 2 s := by
  have := hB.2.2.2.2.1 s hs.1 hs.2
  exact cl_bound (by omega)
theorem IM_bd {c : Nat} {μ ν : Mem} {l s : Int} (hB : MB μ) (hR : RB μ c) (h : IM c μ l s ν) (l' s' : Int) (hl : 0 ≤ l' ∧ l' < μ 0 15) (hs : 0 ≤ s' ∧ s' < μ 0 14) : 0 ≤ ν c (8 + 4 * l' + s') ∧ ν c (8 + 4 * l' + s') ≤ μ 2 s' := by
  rw [h.2.2.2 l' s' hl.1 hl.2 hs.1 hs.2]
  split
  · exact mV1_bd hB c l' s' hs
  · exact hR.2 l' s' hl.1 hl.2 hs.1 hs.2
theorem IM_En {c : Nat} {μ ν : Mem} {l s : Int} (hc : c ≠ 2) (h : IM c μ l s ν) (k v : Int) (hk : 0 ≤ k ∧ k < 4) : mEn ν c k v = mEn μ c k v := by
  unfold mEn
  rw [h.1 2 (Ne.symm hc), h.2.1 (2 * k) (by omega) (by omega), h.2.1 (2 * k + 1) (by omega) (by omega)]
theorem IM_E0 {c : Nat} {μ ν : Mem} {l s : Int} (hc : c ≠ 2) (h : IM c μ l s ν) (hl : 0 ≤ l ∧ l < μ 0 15) (hs : 0 ≤ s ∧ s < μ 0 14) (h4 : μ 0 14 ≤ 4) : mE ν c l s = mE μ c l s := by
  unfold mE
  rw [IM_En hc h _ _ (by omega), h.2.2.2 l s hl.1 hl.2 hs.1 hs.2, if_neg (by omega)]
theorem IM_E1 {c : Nat} {μ ν : Mem} {l s : Int} (hc : c ≠ 2) (h : IM c μ l (s + 1) ν) (hl : 0 ≤ l ∧ l < μ 0 15) (hs : 0 ≤ s ∧ s < μ 0 14) (h4 : μ 0 14 ≤ 4) : mE ν c l s = mEn μ c s (mV1 μ c l s) := by
  unfold mE
  rw [IM_En hc h _ _ (by omega), h.2.2.2 l s hl.1 hl.2 hs.1 hs.2, if_pos (by omega)]
theorem mJn_bound (μ : Mem) (c : Nat) (h1 : 0 ≤ μ 0 14 ∧ μ 0 14 ≤ 4) (h2 : 0 ≤ μ 0 15 ∧ μ 0 15 ≤ 4) : 0 ≤ mJn μ c ∧ mJn μ c ≤ 16 := by
  have := smf_bound (f := fun l => smf (fun s => if mEn μ c s (mV1 μ c l s) = mE μ c l s then 0 else 1) 0 (μ 0 14).toNat) (a := 0) (b := 4) (μ 0 15).toNat 0 (fun i _ _ => by
    have := smf_bound (f := fun s => if mEn μ c s (mV1 μ c i s) = mE μ c i s then 0 else 1) (a := 0) (b := 1) (μ 0 14).toNat 0 (fun i _ _ => by constructor <;> split <;> omega)
    omega)
  unfold mJn
  omega

set_option maxRecDepth 100000 in
set_option maxHeartbeats 4000000 in
theorem X7_goes_7 (μ : Mem) (hB : MB μ) (hR : RB μ 7) (hy : 0 ≤ μ 7 24 ∧ μ 7 24 ≤ 1000000) (hj : 0 ≤ μ 7 25 ∧ μ 7 25 ≤ 1000000) : CT TM md_X7_goes [aR 0, aR 7] μ (fun rv μ1 => rv = none ∧ MGo 7 μ μ1) := by
  refine CT.of (Nat.le_of_ble_eq_true rfl) (by decide) rfl (Nat.le_of_ble_eq_true rfl) (fun X hG hX => ?_)
  have hG : G TM X RX7 cX7_goes 6 3 69 none := hG
  show J TM X 6 0 [some (aR 0), some (aR 7), none, none, none, none] [] μ
  have hB2 := hB
  obtain ⟨h1, h2, h3, h4, h5, h6⟩ := hB2
  have lp : ∀ (k : Nat) (l : Int) (ν : Mem), 0 ≤ l → l + k = μ 0 15 → IM 7 μ l 0 ν → (ν 7 25 + smf (fun l => smf (fun s => if mEn μ 7 s (mV1 μ 7 l s) = mE μ 7 l s then 0 else 1) 0 (μ 0 14).toNat) l k = μ 7 25 + mJn μ 7 ∧ 0 ≤ ν 7 25 ∧ ν 7 25 ≤ 1000000 + 16 * l) → J TM X 6 2 [some (aR 0), some (aR 7), some (aI l), none, none, none] [] ν := by
    intro k
    induction k with
    | zero =>
      intro l ν i0 i1 hI i2
      have e0 : ν 0 = μ 0 := hI.1 0 (by decide)
      have e14 : ν 0 14 = μ 0 14 := by rw [e0]
      have e15 : ν 0 15 = μ 0 15 := by rw [e0]
      have q0 := hI.2.2.1
      refine J.iload_n hG dX7_goes_2 rfl rfl ?_
      refine J.aload_n hG dX7_goes_3 rfl rfl ?_
      refine J.getI hG ciX7 rfl 15 15 rfl (Nat.le_of_ble_eq_true rfl) rfl fl_X7_144 dX7_goes_4 ?_
      refine J.icmp_ge hG 105 dX7_goes_7 rfl (fun h7 => ?_) (fun h7 => absurd h7 (by omega))
      refine J.aload_n hG dX7_goes_105 rfl rfl ?_
      refine J.bipush hG dX7_goes_106 (by decide) (by decide) ?_
      refine J.dup2 hG dX7_goes_108 (fun _ => rfl) (fun _ => rfl) ?_
      refine J.iald hG rfl (by omega) (by omega) dX7_goes_109 ?_
      refine J.iconst hG dX7_goes_110 (by decide) ?_
      refine J.iadd hG dX7_goes_111 (fun _ _ => (by rw [q0]; omega)) ?_
      refine J.iast hG rfl (by omega) (by omega) dX7_goes_112 ?_
      refine J.vret hG dX7_goes_113 ?_
      rw [hX]; dsimp only
      simp only [smf] at i2
      exact ⟨rfl, fun d a => by rw [up_cell _ _ _ a]; exact hI.1 d a, fun j a b => by rw [up_ne _ (fun z => by omega)]; exact hI.2.1 j a b, by rw [up_self, q0], by rw [up_ne _ (by decide)]; omega, fun l' s' a b c d => by rw [up_ne _ (fun z => by omega), hI.2.2.2 l' s' a b c d, if_pos (by omega)]⟩
    | succ k ih =>
      intro l ν i0 i1 hI i2
      rw [smf] at i2
      have lp2 : ∀ (k2 : Nat) (s : Int) (ν : Mem), 0 ≤ s → s + k2 = μ 0 14 → IM 7 μ l s ν → (ν 7 25 + smf (fun s => if mEn μ 7 s (mV1 μ 7 l s) = mE μ 7 l s then 0 else 1) s k2 + smf (fun l => smf (fun s => if mEn μ 7 s (mV1 μ 7 l s) = mE μ 7 l s then 0 else 1) 0 (μ 0 14).toNat) (l + 1) k = μ 7 25 + mJn μ 7 ∧ 0 ≤ ν 7 25 ∧ ν 7 25 ≤ 1000000 + 16 * l + 4 * s) → J TM X 6 12 [some (aR 0), some (aR 7), some (aI l), some (aI s), none, none] [] ν := by
        intro k2
        induction k2 with
        | zero =>
          intro s ν i8 i9 hJ j2
          have e0 : ν 0 = μ 0 := hJ.1 0 (by decide)
          have e14 : ν 0 14 = μ 0 14 := by rw [e0]
          have e15 : ν 0 15 = μ 0 15 := by rw [e0]
          refine J.iload_n hG dX7_goes_12 rfl rfl ?_
          refine J.aload_n hG dX7_goes_13 rfl rfl ?_
          refine J.getI hG ciX7 rfl 14 14 rfl (Nat.le_of_ble_eq_true rfl) rfl fl_X7_141 dX7_goes_14 ?_
          refine J.icmp_ge hG 99 dX7_goes_17 rfl (fun h17 => ?_) (fun h17 => absurd h17 (by omega))
          refine J.iinc hG dX7_goes_99 (Nat.le_of_ble_eq_true rfl) rfl (fun _ => (by omega)) ?_
          refine J.goto hG 2 dX7_goes_102 rfl ?_
          simp only [smf, Int.add_zero] at j2
          have hs4 : s = μ 0 14 := by omega
          subst hs4
          exact J.drop 3 (ih (l + 1) ν (by omega) (by omega) (IM_next hJ) (by refine ⟨?_, by omega, by omega⟩; have := j2.1; omega))
        | succ k2 ih2 =>
          intro s ν i8 i9 hJ j2
          rw [smf] at j2
          have e0 : ν 0 = μ 0 := hJ.1 0 (by decide)
          have e14 : ν 0 14 = μ 0 14 := by rw [e0]
          have e15 : ν 0 15 = μ 0 15 := by rw [e0]
          have e2 : ν 2 = μ 2 := hJ.1 2 (by decide)
          have e5 : ν 5 = μ 5 := hJ.1 5 (by decide)
          have t0 := IM_E0 (by decide) hJ (by omega) (by omega) (by omega)
          have q6 := h6 l s (by omega) (by omega) (by omega) (by omega)
          have q5 := h5 s (by omega) (by omega)
          have qb := IM_bd hB hR hJ l s (by omega) (by omega)
          have qv : ν 7 (8 + 4 * l + s) = μ 7 (8 + 4 * l + s) := by rw [hJ.2.2.2 l s (by omega) (by omega) (by omega) (by omega), if_neg (by omega)]
          have hJ2 := IM_v (by omega) hJ (l := l) (s := s) (by omega) (by omega)
          have t1 := IM_E1 (by decide) hJ2 (by omega) (by omega) (by omega)
          have ev : cl (ν 2 s) (ν 7 (8 + 4 * l + s) + ν 5 (4 * l + s) - 3) = mV1 μ 7 l s := by rw [e2, e5, qv]; rfl
          have e25 : up ν 7 (8 + 4 * l + s) (mV1 μ 7 l s) 7 25 = ν 7 25 := up_ne _ (fun z => by omega)
          have e015 : up ν 7 (8 + 4 * l + s) (mV1 μ 7 l s) 0 15 = μ 0 15 := by rw [up_cell _ _ _ (by decide)]; exact e15
          refine J.iload_n hG dX7_goes_12 rfl rfl ?_
          refine J.aload_n hG dX7_goes_13 rfl rfl ?_
          refine J.getI hG ciX7 rfl 14 14 rfl (Nat.le_of_ble_eq_true rfl) rfl fl_X7_141 dX7_goes_14 ?_
          refine J.icmp_ge hG 99 dX7_goes_17 rfl (fun h17 => absurd h17 (by omega)) (fun h17 => ?_)
          refine J.bipush hG dX7_goes_20 (by decide) (by decide) ?_
          refine J.iconst hG dX7_goes_22 (by decide) ?_
          refine J.iload_n hG dX7_goes_23 rfl rfl ?_
          refine J.imul hG dX7_goes_24 (fun _ _ => (by omega)) ?_
          refine J.iadd hG dX7_goes_25 (fun _ _ => (by omega)) ?_
          refine J.iload_n hG dX7_goes_26 rfl rfl ?_
          refine J.iadd hG dX7_goes_27 (fun _ _ => (by omega)) ?_
          refine J.istore hG dX7_goes_28 (Nat.le_of_ble_eq_true rfl) ?_
          refine J.aload_n hG dX7_goes_30 rfl rfl ?_
          refine J.aload_n hG dX7_goes_31 rfl rfl ?_
          refine J.iload_n hG dX7_goes_32 rfl rfl ?_
          refine J.iload_n hG dX7_goes_33 rfl rfl ?_
          refine J.callV hG (X7_endIn _ _ rfl _ _ (by omega) (by omega) (by have := IM_bd hB hR hJ l s (by omega) (by omega); omega)) ok_X7_endIn ml_X7_174 rfl rfl rfl rfl (Nat.le_of_ble_eq_true rfl) ⟨Nat.le_of_ble_eq_true rfl, Nat.le_of_ble_eq_true rfl⟩ dX7_goes_34 rfl (fun r1 μ1 hp1 => ?_)
          obtain ⟨rfl, rfl⟩ := hp1
          refine J.istore hG dX7_goes_37 (Nat.le_of_ble_eq_true rfl) ?_
          refine J.aload_n hG dX7_goes_39 rfl rfl ?_
          refine J.iload hG dX7_goes_40 rfl ?_
          refine J.aload_n hG dX7_goes_42 rfl rfl ?_
          refine J.iload hG dX7_goes_43 rfl ?_
          refine J.iald hG rfl (by omega) (by omega) dX7_goes_45 ?_
          refine J.aload_n hG dX7_goes_46 rfl rfl ?_
          refine J.getR hG ciX7 rfl 12 12 rfl (Nat.le_of_ble_eq_true rfl) rfl fl_X7_22 dX7_goes_47 ?_
          refine J.iconst hG dX7_goes_50 (by decide) ?_
          refine J.iload_n hG dX7_goes_51 rfl rfl ?_
          refine J.imul hG dX7_goes_52 (fun _ _ => (by omega)) ?_
          refine J.iload_n hG dX7_goes_53 rfl rfl ?_
          refine J.iadd hG dX7_goes_54 (fun _ _ => (by omega)) ?_
          refine J.iald hG rfl (by omega) (by omega) dX7_goes_55 ?_
          refine J.iadd hG dX7_goes_56 (fun _ _ => (by rw [e5]; omega)) ?_
          refine J.iconst hG dX7_goes_57 (by decide) ?_
          refine J.isub hG dX7_goes_58 (fun _ _ => (by rw [e5]; omega)) ?_
          refine J.aload_n hG dX7_goes_59 rfl rfl ?_
          refine J.getR hG ciX7 rfl 9 9 rfl (Nat.le_of_ble_eq_true rfl) rfl fl_X7_13 dX7_goes_60 ?_
          refine J.iload_n hG dX7_goes_63 rfl rfl ?_
          refine J.iald hG rfl (by omega) (by omega) dX7_goes_64 ?_
          refine J.callS hG (X7_held _ _ _) ok_X7_held ml_X7_180 rfl (Nat.le_of_ble_eq_true rfl) ⟨Nat.le_of_ble_eq_true rfl, Nat.le_of_ble_eq_true rfl⟩ dX7_goes_65 rfl (fun r1 μ1 hp1 => ?_)
          obtain ⟨rfl, rfl⟩ := hp1
          rw [ev]
          refine J.iast hG rfl (by omega) (by omega) dX7_goes_68 ?_

          refine J.aload_n hG dX7_goes_69 rfl rfl ?_
          refine J.bipush hG dX7_goes_70 (by decide) (by decide) ?_
          refine J.dup2 hG dX7_goes_72 (fun _ => rfl) (fun _ => rfl) ?_
          refine J.iald hG rfl (by omega) (by omega) dX7_goes_73 ?_
          refine J.aload_n hG dX7_goes_74 rfl rfl ?_
          refine J.aload_n hG dX7_goes_75 rfl rfl ?_
          refine J.iload_n hG dX7_goes_76 rfl rfl ?_
          refine J.iload_n hG dX7_goes_77 rfl rfl ?_
          refine J.callV hG (X7_endIn _ _ rfl _ _ (by omega) (by omega) (by have := IM_bd hB hR hJ2 l s (by omega) (by omega); omega)) ok_X7_endIn ml_X7_174 rfl rfl rfl rfl (Nat.le_of_ble_eq_true rfl) ⟨Nat.le_of_ble_eq_true rfl, Nat.le_of_ble_eq_true rfl⟩ dX7_goes_78 rfl (fun r1 μ1 hp1 => ?_)
          obtain ⟨rfl, rfl⟩ := hp1
          refine J.iload hG dX7_goes_81 rfl ?_
          refine J.icmp_ne hG 90 dX7_goes_83 rfl (fun h83 => ?_) (fun h83 => ?_)
          · refine J.iconst hG dX7_goes_90 (by decide) ?_
            refine J.iadd hG dX7_goes_91 (fun _ _ => (by rw [e25]; omega)) ?_
            refine J.iast hG rfl (by omega) (by omega) dX7_goes_92 ?_
            refine J.iinc hG dX7_goes_93 (Nat.le_of_ble_eq_true rfl) rfl (fun _ => (by omega)) ?_
            refine J.goto hG 12 dX7_goes_96 rfl ?_
            rw [if_neg (fun q => h83 (by rw [t1, t0]; exact q))] at j2
            exact J.drop 5 (J.drop 4 (ih2 (s + 1) _ (by omega) (by omega) (IM_j _ (by omega) hJ2) (by rw [up_self, e25]; omega)))
          · refine J.iconst hG dX7_goes_86 (by decide) ?_
            refine J.goto hG 91 dX7_goes_87 rfl ?_
            refine J.iadd hG dX7_goes_91 (fun _ _ => (by rw [e25]; omega)) ?_
            refine J.iast hG rfl (by omega) (by omega) dX7_goes_92 ?_
            refine J.iinc hG dX7_goes_93 (Nat.le_of_ble_eq_true rfl) rfl (fun _ => (by omega)) ?_
            refine J.goto hG 12 dX7_goes_96 rfl ?_
            rw [if_pos (by rw [← t1, h83, t0])] at j2
            exact J.drop 5 (J.drop 4 (ih2 (s + 1) _ (by omega) (by omega) (IM_j _ (by omega) hJ2) (by rw [up_self, e25]; omega)))
      have e0 : ν 0 = μ 0 := hI.1 0 (by decide)
      have e14 : ν 0 14 = μ 0 14 := by rw [e0]
      have e15 : ν 0 15 = μ 0 15 := by rw [e0]
      refine J.iload_n hG dX7_goes_2 rfl rfl ?_
      refine J.aload_n hG dX7_goes_3 rfl rfl ?_
      refine J.getI hG ciX7 rfl 15 15 rfl (Nat.le_of_ble_eq_true rfl) rfl fl_X7_144 dX7_goes_4 ?_
      refine J.icmp_ge hG 105 dX7_goes_7 rfl (fun h7 => absurd h7 (by omega)) (fun h7 => ?_)
      refine J.iconst hG dX7_goes_10 (by decide) ?_
      refine J.istore_n hG dX7_goes_11 rfl (Nat.le_of_ble_eq_true rfl) ?_
      exact lp2 (μ 0 14).toNat 0 ν (Int.le_refl _) (by omega) hI (by refine ⟨?_, by omega, by omega⟩; have := i2.1; omega)
  refine J.iconst hG dX7_goes_0 (by decide) ?_
  refine J.istore_n hG dX7_goes_1 rfl (Nat.le_of_ble_eq_true rfl) ?_
  exact lp (μ 0 15).toNat 0 μ (Int.le_refl _) (by omega) ⟨fun _ _ => rfl, fun _ _ _ => rfl, rfl, fun l' s' a b c d => by rw [if_neg (by omega)]⟩ ⟨by unfold mJn; rfl, by omega, by omega⟩

set_option maxRecDepth 100000 in
set_option maxHeartbeats 4000000 in
theorem X7_goes_8 (μ : Mem) (hB : MB μ) (hR : RB μ 8) (hy : 0 ≤ μ 8 24 ∧ μ 8 24 ≤ 1000000) (hj : 0 ≤ μ 8 25 ∧ μ 8 25 ≤ 1000000) : CT TM md_X7_goes [aR 0, aR 8] μ (fun rv μ1 => rv = none ∧ MGo 8 μ μ1) := by
  refine CT.of (Nat.le_of_ble_eq_true rfl) (by decide) rfl (Nat.le_of_ble_eq_true rfl) (fun X hG hX => ?_)
  have hG : G TM X RX7 cX7_goes 6 3 69 none := hG
  show J TM X 6 0 [some (aR 0), some (aR 8), none, none, none, none] [] μ
  have hB2 := hB
  obtain ⟨h1, h2, h3, h4, h5, h6⟩ := hB2
  have lp : ∀ (k : Nat) (l : Int) (ν : Mem), 0 ≤ l → l + k = μ 0 15 → IM 8 μ l 0 ν → (ν 8 25 + smf (fun l => smf (fun s => if mEn μ 8 s (mV1 μ 8 l s) = mE μ 8 l s then 0 else 1) 0 (μ 0 14).toNat) l k = μ 8 25 + mJn μ 8 ∧ 0 ≤ ν 8 25 ∧ ν 8 25 ≤ 1000000 + 16 * l) → J TM X 6 2 [some (aR 0), some (aR 8), some (aI l), none, none, none] [] ν := by
    intro k
    induction k with
    | zero =>
      intro l ν i0 i1 hI i2
      have e0 : ν 0 = μ 0 := hI.1 0 (by decide)
      have e14 : ν 0 14 = μ 0 14 := by rw [e0]
      have e15 : ν 0 15 = μ 0 15 := by rw [e0]
      have q0 := hI.2.2.1
      refine J.iload_n hG dX7_goes_2 rfl rfl ?_
      refine J.aload_n hG dX7_goes_3 rfl rfl ?_
      refine J.getI hG ciX7 rfl 15 15 rfl (Nat.le_of_ble_eq_true rfl) rfl fl_X7_144 dX7_goes_4 ?_
      refine J.icmp_ge hG 105 dX7_goes_7 rfl (fun h7 => ?_) (fun h7 => absurd h7 (by omega))
      refine J.aload_n hG dX7_goes_105 rfl rfl ?_
      refine J.bipush hG dX7_goes_106 (by decide) (by decide) ?_
      refine J.dup2 hG dX7_goes_108 (fun _ => rfl) (fun _ => rfl) ?_
      refine J.iald hG rfl (by omega) (by omega) dX7_goes_109 ?_
      refine J.iconst hG dX7_goes_110 (by decide) ?_
      refine J.iadd hG dX7_goes_111 (fun _ _ => (by rw [q0]; omega)) ?_
      refine J.iast hG rfl (by omega) (by omega) dX7_goes_112 ?_
      refine J.vret hG dX7_goes_113 ?_
      rw [hX]; dsimp only
      simp only [smf] at i2
      exact ⟨rfl, fun d a => by rw [up_cell _ _ _ a]; exact hI.1 d a, fun j a b => by rw [up_ne _ (fun z => by omega)]; exact hI.2.1 j a b, by rw [up_self, q0], by rw [up_ne _ (by decide)]; omega, fun l' s' a b c d => by rw [up_ne _ (fun z => by omega), hI.2.2.2 l' s' a b c d, if_pos (by omega)]⟩
    | succ k ih =>
      intro l ν i0 i1 hI i2
      rw [smf] at i2
      have lp2 : ∀ (k2 : Nat) (s : Int) (ν : Mem), 0 ≤ s → s + k2 = μ 0 14 → IM 8 μ l s ν → (ν 8 25 + smf (fun s => if mEn μ 8 s (mV1 μ 8 l s) = mE μ 8 l s then 0 else 1) s k2 + smf (fun l => smf (fun s => if mEn μ 8 s (mV1 μ 8 l s) = mE μ 8 l s then 0 else 1) 0 (μ 0 14).toNat) (l + 1) k = μ 8 25 + mJn μ 8 ∧ 0 ≤ ν 8 25 ∧ ν 8 25 ≤ 1000000 + 16 * l + 4 * s) → J TM X 6 12 [some (aR 0), some (aR 8), some (aI l), some (aI s), none, none] [] ν := by
        intro k2
        induction k2 with
        | zero =>
          intro s ν i8 i9 hJ j2
          have e0 : ν 0 = μ 0 := hJ.1 0 (by decide)
          have e14 : ν 0 14 = μ 0 14 := by rw [e0]
          have e15 : ν 0 15 = μ 0 15 := by rw [e0]
          refine J.iload_n hG dX7_goes_12 rfl rfl ?_
          refine J.aload_n hG dX7_goes_13 rfl rfl ?_
          refine J.getI hG ciX7 rfl 14 14 rfl (Nat.le_of_ble_eq_true rfl) rfl fl_X7_141 dX7_goes_14 ?_
          refine J.icmp_ge hG 99 dX7_goes_17 rfl (fun h17 => ?_) (fun h17 => absurd h17 (by omega))
          refine J.iinc hG dX7_goes_99 (Nat.le_of_ble_eq_true rfl) rfl (fun _ => (by omega)) ?_
          refine J.goto hG 2 dX7_goes_102 rfl ?_
          simp only [smf, Int.add_zero] at j2
          have hs4 : s = μ 0 14 := by omega
          subst hs4
          exact J.drop 3 (ih (l + 1) ν (by omega) (by omega) (IM_next hJ) (by refine ⟨?_, by omega, by omega⟩; have := j2.1; omega))
        | succ k2 ih2 =>
          intro s ν i8 i9 hJ j2
          rw [smf] at j2
          have e0 : ν 0 = μ 0 := hJ.1 0 (by decide)
          have e14 : ν 0 14 = μ 0 14 := by rw [e0]
          have e15 : ν 0 15 = μ 0 15 := by rw [e0]
          have e2 : ν 2 = μ 2 := hJ.1 2 (by decide)
          have e5 : ν 5 = μ 5 := hJ.1 5 (by decide)
          have t0 := IM_E0 (by decide) hJ (by omega) (by omega) (by omega)
          have q6 := h6 l s (by omega) (by omega) (by omega) (by omega)
          have q5 := h5 s (by omega) (by omega)
          have qb := IM_bd hB hR hJ l s (by omega) (by omega)
          have qv : ν 8 (8 + 4 * l + s) = μ 8 (8 + 4 * l + s) := by rw [hJ.2.2.2 l s (by omega) (by omega) (by omega) (by omega), if_neg (by omega)]
          have hJ2 := IM_v (by omega) hJ (l := l) (s := s) (by omega) (by omega)
          have t1 := IM_E1 (by decide) hJ2 (by omega) (by omega) (by omega)
          have ev : cl (ν 2 s) (ν 8 (8 + 4 * l + s) + ν 5 (4 * l + s) - 3) = mV1 μ 8 l s := by rw [e2, e5, qv]; rfl
          have e25 : up ν 8 (8 + 4 * l + s) (mV1 μ 8 l s) 8 25 = ν 8 25 := up_ne _ (fun z => by omega)
          have e015 : up ν 8 (8 + 4 * l + s) (mV1 μ 8 l s) 0 15 = μ 0 15 := by rw [up_cell _ _ _ (by decide)]; exact e15
          refine J.iload_n hG dX7_goes_12 rfl rfl ?_
          refine J.aload_n hG dX7_goes_13 rfl rfl ?_
          refine J.getI hG ciX7 rfl 14 14 rfl (Nat.le_of_ble_eq_true rfl) rfl fl_X7_141 dX7_goes_14 ?_
          refine J.icmp_ge hG 99 dX7_goes_17 rfl (fun h17 => absurd h17 (by omega)) (fun h17 => ?_)
          refine J.bipush hG dX7_goes_20 (by decide) (by decide) ?_
          refine J.iconst hG dX7_goes_22 (by decide) ?_
          refine J.iload_n hG dX7_goes_23 rfl rfl ?_
          refine J.imul hG dX7_goes_24 (fun _ _ => (by omega)) ?_
          refine J.iadd hG dX7_goes_25 (fun _ _ => (by omega)) ?_
          refine J.iload_n hG dX7_goes_26 rfl rfl ?_
          refine J.iadd hG dX7_goes_27 (fun _ _ => (by omega)) ?_
          refine J.istore hG dX7_goes_28 (Nat.le_of_ble_eq_true rfl) ?_
          refine J.aload_n hG dX7_goes_30 rfl rfl ?_
          refine J.aload_n hG dX7_goes_31 rfl rfl ?_
          refine J.iload_n hG dX7_goes_32 rfl rfl ?_
          refine J.iload_n hG dX7_goes_33 rfl rfl ?_
          refine J.callV hG (X7_endIn _ _ rfl _ _ (by omega) (by omega) (by have := IM_bd hB hR hJ l s (by omega) (by omega); omega)) ok_X7_endIn ml_X7_174 rfl rfl rfl rfl (Nat.le_of_ble_eq_true rfl) ⟨Nat.le_of_ble_eq_true rfl, Nat.le_of_ble_eq_true rfl⟩ dX7_goes_34 rfl (fun r1 μ1 hp1 => ?_)
          obtain ⟨rfl, rfl⟩ := hp1
          refine J.istore hG dX7_goes_37 (Nat.le_of_ble_eq_true rfl) ?_
          refine J.aload_n hG dX7_goes_39 rfl rfl ?_
          refine J.iload hG dX7_goes_40 rfl ?_
          refine J.aload_n hG dX7_goes_42 rfl rfl ?_
          refine J.iload hG dX7_goes_43 rfl ?_
          refine J.iald hG rfl (by omega) (by omega) dX7_goes_45 ?_
          refine J.aload_n hG dX7_goes_46 rfl rfl ?_
          refine J.getR hG ciX7 rfl 12 12 rfl (Nat.le_of_ble_eq_true rfl) rfl fl_X7_22 dX7_goes_47 ?_
          refine J.iconst hG dX7_goes_50 (by decide) ?_
          refine J.iload_n hG dX7_goes_51 rfl rfl ?_
          refine J.imul hG dX7_goes_52 (fun _ _ => (by omega)) ?_
          refine J.iload_n hG dX7_goes_53 rfl rfl ?_
          refine J.iadd hG dX7_goes_54 (fun _ _ => (by omega)) ?_
          refine J.iald hG rfl (by omega) (by omega) dX7_goes_55 ?_
          refine J.iadd hG dX7_goes_56 (fun _ _ => (by rw [e5]; omega)) ?_
          refine J.iconst hG dX7_goes_57 (by decide) ?_
          refine J.isub hG dX7_goes_58 (fun _ _ => (by rw [e5]; omega)) ?_
          refine J.aload_n hG dX7_goes_59 rfl rfl ?_
          refine J.getR hG ciX7 rfl 9 9 rfl (Nat.le_of_ble_eq_true rfl) rfl fl_X7_13 dX7_goes_60 ?_
          refine J.iload_n hG dX7_goes_63 rfl rfl ?_
          refine J.iald hG rfl (by omega) (by omega) dX7_goes_64 ?_
          refine J.callS hG (X7_held _ _ _) ok_X7_held ml_X7_180 rfl (Nat.le_of_ble_eq_true rfl) ⟨Nat.le_of_ble_eq_true rfl, Nat.le_of_ble_eq_true rfl⟩ dX7_goes_65 rfl (fun r1 μ1 hp1 => ?_)
          obtain ⟨rfl, rfl⟩ := hp1
          rw [ev]
          refine J.iast hG rfl (by omega) (by omega) dX7_goes_68 ?_

          refine J.aload_n hG dX7_goes_69 rfl rfl ?_
          refine J.bipush hG dX7_goes_70 (by decide) (by decide) ?_
          refine J.dup2 hG dX7_goes_72 (fun _ => rfl) (fun _ => rfl) ?_
          refine J.iald hG rfl (by omega) (by omega) dX7_goes_73 ?_
          refine J.aload_n hG dX7_goes_74 rfl rfl ?_
          refine J.aload_n hG dX7_goes_75 rfl rfl ?_
          refine J.iload_n hG dX7_goes_76 rfl rfl ?_
          refine J.iload_n hG dX7_goes_77 rfl rfl ?_
          refine J.callV hG (X7_endIn _ _ rfl _ _ (by omega) (by omega) (by have := IM_bd hB hR hJ2 l s (by omega) (by omega); omega)) ok_X7_endIn ml_X7_174 rfl rfl rfl rfl (Nat.le_of_ble_eq_true rfl) ⟨Nat.le_of_ble_eq_true rfl, Nat.le_of_ble_eq_true rfl⟩ dX7_goes_78 rfl (fun r1 μ1 hp1 => ?_)
          obtain ⟨rfl, rfl⟩ := hp1
          refine J.iload hG dX7_goes_81 rfl ?_
          refine J.icmp_ne hG 90 dX7_goes_83 rfl (fun h83 => ?_) (fun h83 => ?_)
          · refine J.iconst hG dX7_goes_90 (by decide) ?_
            refine J.iadd hG dX7_goes_91 (fun _ _ => (by rw [e25]; omega)) ?_
            refine J.iast hG rfl (by omega) (by omega) dX7_goes_92 ?_
            refine J.iinc hG dX7_goes_93 (Nat.le_of_ble_eq_true rfl) rfl (fun _ => (by omega)) ?_
            refine J.goto hG 12 dX7_goes_96 rfl ?_
            rw [if_neg (fun q => h83 (by rw [t1, t0]; exact q))] at j2
            exact J.drop 5 (J.drop 4 (ih2 (s + 1) _ (by omega) (by omega) (IM_j _ (by omega) hJ2) (by rw [up_self, e25]; omega)))
          · refine J.iconst hG dX7_goes_86 (by decide) ?_
            refine J.goto hG 91 dX7_goes_87 rfl ?_
            refine J.iadd hG dX7_goes_91 (fun _ _ => (by rw [e25]; omega)) ?_
            refine J.iast hG rfl (by omega) (by omega) dX7_goes_92 ?_
            refine J.iinc hG dX7_goes_93 (Nat.le_of_ble_eq_true rfl) rfl (fun _ => (by omega)) ?_
            refine J.goto hG 12 dX7_goes_96 rfl ?_
            rw [if_pos (by rw [← t1, h83, t0])] at j2
            exact J.drop 5 (J.drop 4 (ih2 (s + 1) _ (by omega) (by omega) (IM_j _ (by omega) hJ2) (by rw [up_self, e25]; omega)))
      have e0 : ν 0 = μ 0 := hI.1 0 (by decide)
      have e14 : ν 0 14 = μ 0 14 := by rw [e0]
      have e15 : ν 0 15 = μ 0 15 := by rw [e0]
      refine J.iload_n hG dX7_goes_2 rfl rfl ?_
      refine J.aload_n hG dX7_goes_3 rfl rfl ?_
      refine J.getI hG ciX7 rfl 15 15 rfl (Nat.le_of_ble_eq_true rfl) rfl fl_X7_144 dX7_goes_4 ?_
      refine J.icmp_ge hG 105 dX7_goes_7 rfl (fun h7 => absurd h7 (by omega)) (fun h7 => ?_)
      refine J.iconst hG dX7_goes_10 (by decide) ?_
      refine J.istore_n hG dX7_goes_11 rfl (Nat.le_of_ble_eq_true rfl) ?_
      exact lp2 (μ 0 14).toNat 0 ν (Int.le_refl _) (by omega) hI (by refine ⟨?_, by omega, by omega⟩; have := i2.1; omega)
  refine J.iconst hG dX7_goes_0 (by decide) ?_
  refine J.istore_n hG dX7_goes_1 rfl (Nat.le_of_ble_eq_true rfl) ?_
  exact lp (μ 0 15).toNat 0 μ (Int.le_refl _) (by omega) ⟨fun _ _ => rfl, fun _ _ _ => rfl, rfl, fun l' s' a b c d => by rw [if_neg (by omega)]⟩ ⟨by unfold mJn; rfl, by omega, by omega⟩

set_option maxRecDepth 100000 in
set_option maxHeartbeats 4000000 in
theorem X7_asNow (μ : Mem)  : CT TM md_X7_asNow [aR 0] μ (fun rv μ1 => rv = none ∧ (∀ c : Nat, c ≠ 8 → μ1 c = μ c) ∧ ∀ j : Int, 0 ≤ j → j < 26 → μ1 8 j = μ 7 j) := by
  refine CT.of (Nat.le_of_ble_eq_true rfl) (by decide) rfl (Nat.le_of_ble_eq_true rfl) (fun X hG hX => ?_)
  have hG : G TM X RX7 cX7_asNow 2 0 0 none := hG
  show J TM X 2 0 [some (aR 0), none] [] μ
  have lp : ∀ (k : Nat) (i : Int) (ν : Mem), 0 ≤ i → i + k = 26 → (∀ c : Nat, c ≠ 8 → ν c = μ c) → (∀ j : Int, 0 ≤ j → j < i → ν 8 j = μ 7 j) → J TM X 2 2 [some (aR 0), some (aI i)] [] ν := by
    intro k
    induction k with
    | zero =>
      intro i ν i0 i1 hF hA
      refine J.iload_n hG dX7_asNow_2 rfl rfl ?_
      refine J.bipush hG dX7_asNow_3 (by decide) (by decide) ?_
      refine J.icmp_ge hG 26 dX7_asNow_5 rfl (fun h5 => ?_) (fun h5 => absurd h5 (by omega))
      refine J.vret hG dX7_asNow_26 ?_
      rw [hX]; dsimp only
      exact ⟨rfl, hF, fun j a b => hA j a (by omega)⟩
    | succ k ih =>
      intro i ν i0 i1 hF hA
      refine J.iload_n hG dX7_asNow_2 rfl rfl ?_
      refine J.bipush hG dX7_asNow_3 (by decide) (by decide) ?_
      refine J.icmp_ge hG 26 dX7_asNow_5 rfl (fun h5 => absurd h5 (by omega)) (fun h5 => ?_)
      refine J.aload_n hG dX7_asNow_8 rfl rfl ?_
      refine J.getR hG ciX7 rfl 23 23 rfl (Nat.le_of_ble_eq_true rfl) rfl fl_X7_31 dX7_asNow_9 ?_
      refine J.iload_n hG dX7_asNow_12 rfl rfl ?_
      refine J.aload_n hG dX7_asNow_13 rfl rfl ?_
      refine J.getR hG ciX7 rfl 22 22 rfl (Nat.le_of_ble_eq_true rfl) rfl fl_X7_28 dX7_asNow_14 ?_
      refine J.iload_n hG dX7_asNow_17 rfl rfl ?_
      refine J.iald hG rfl (by omega) (by omega) dX7_asNow_18 ?_
      refine J.iast hG rfl (by omega) (by omega) dX7_asNow_19 ?_
      refine J.iinc hG dX7_asNow_20 (Nat.le_of_ble_eq_true rfl) rfl (fun _ => (by omega)) ?_
      refine J.goto hG 2 dX7_asNow_23 rfl ?_
      exact ih (i + 1) _ (by omega) (by omega) (fun c hc => by rw [up_cell _ _ _ hc]; exact hF c hc) (fun j a b => by by_cases hj : j = i; rw [hj, up_self, hF 7 (by decide)]; rw [up_ne _ (fun w => hj w.2)]; exact hA j a (by omega))
  refine J.iconst hG dX7_asNow_0 (by decide) ?_
  refine J.istore_n hG dX7_asNow_1 rfl (Nat.le_of_ble_eq_true rfl) ?_
  exact lp 26 0 μ (Int.le_refl _) (by omega) (fun _ _ => rfl) (fun j a b => absurd b (by omega))


/-- the reference stands at the token of that number -/
def AtJ (j : Nat) (μ : Mem) : Prop := AtT (μ 1) (μ 0 3) (Stk (μ 1) (μ 0 3) j) μ
theorem AtJ_next {j : Nat} {μ : Mem} (h : AtJ j μ) (hn : ¬ μ 0 5 = 0) : (0 ≤ μ 0 4 ∧ μ 0 4 ≤ μ 0 3) ∧ Bd (μ 1) (μ 0 3) (μ 0 4) ∧ nst (μ 1) (μ 0 3) (μ 0 4) = Stk (μ 1) (μ 0 3) (j + 1) := by
  rcases h.2 with q | q
  · exact absurd q.2.1 hn
  · exact ⟨q.2.2.1, q.2.2.2.1, q.2.2.2.2⟩

set_option maxRecDepth 100000 in
set_option maxHeartbeats 4000000 in
theorem X7_isWell (μ : Mem)  : CT TM md_X7_isWell [aR 0] μ (fun rv μ1 => rv = some (aI (if μ 0 8 < 0 then 1 else 0)) ∧ μ = μ1) := by
  refine CT.of (Nat.le_of_ble_eq_true rfl) (by decide) rfl (Nat.le_of_ble_eq_true rfl) (fun X hG hX => ?_)
  have hG : G TM X RX7 cX7_isWell 1 0 0 (some .boolean) := hG
  show J TM X 1 0 [some (aR 0)] [] μ
  refine J.aload_n hG dX7_isWell_0 rfl rfl ?_
  refine J.getI hG ciX7 rfl 8 8 rfl (Nat.le_of_ble_eq_true rfl) rfl fl_X7_101 dX7_isWell_1 ?_
  refine J.if_ge hG 11 dX7_isWell_4 rfl (fun h4 => ?_) (fun h4 => ?_)
  · refine J.iconst hG dX7_isWell_11 (by decide) ?_
    refine J.zret hG (by first | exact Or.inl rfl | exact Or.inr rfl | assumption | (split <;> first | exact Or.inl rfl | exact Or.inr rfl)) dX7_isWell_12 ?_
    rw [hX]; dsimp only
    exact ⟨by congr 2; (split <;> omega), rfl⟩
  · refine J.iconst hG dX7_isWell_7 (by decide) ?_
    refine J.goto hG 12 dX7_isWell_8 rfl ?_
    refine J.zret hG (by first | exact Or.inl rfl | exact Or.inr rfl | assumption | (split <;> first | exact Or.inl rfl | exact Or.inr rfl)) dX7_isWell_12 ?_
    rw [hX]; dsimp only
    exact ⟨by congr 2; (split <;> omega), rfl⟩

set_option maxRecDepth 100000 in
set_option maxHeartbeats 4000000 in
theorem X7_takes_b (μ : Mem) (b : Int) (h8 : 0 ≤ μ 0 8) : CT TM md_X7_takes [aR 0, aI b] μ (fun rv μ1 => rv = some (aI 0) ∧ μ1 = μ) := by
  refine CT.of (Nat.le_of_ble_eq_true rfl) (by decide) rfl (Nat.le_of_ble_eq_true rfl) (fun X hG hX => ?_)
  have hG : G TM X RX7 cX7_takes 3 2 43 (some .int) := hG
  show J TM X 3 0 [some (aR 0), some (aI b), none] [] μ
  refine J.aload_n hG dX7_takes_0 rfl rfl ?_
  refine J.callV hG (X7_isWell _) ok_X7_isWell ml_X7_104 rfl rfl rfl rfl (Nat.le_of_ble_eq_true rfl) ⟨Nat.le_of_ble_eq_true rfl, Nat.le_of_ble_eq_true rfl⟩ dX7_takes_1 rfl (fun r1 μ1 hp1 => ?_)
  obtain ⟨rfl, rfl⟩ := hp1
  refine J.ifb_ne hG 9 dX7_takes_4 rfl (fun h4 => absurd h4 (by omega)) (fun h4 => ?_)
  refine J.iconst hG dX7_takes_7 (by decide) ?_
  refine J.iret hG dX7_takes_8 ?_
  rw [hX]; dsimp only
  exact ⟨rfl, rfl⟩

set_option maxRecDepth 100000 in
set_option maxHeartbeats 4000000 in
theorem X7_takes_f (μ : Mem) (h8 : μ 0 8 < 0) : CT TM md_X7_takes [aR 0, aI 0] μ (fun rv μ1 => rv = some (aI 0) ∧ μ1 = up μ 0 8 (μ 0 6)) := by
  refine CT.of (Nat.le_of_ble_eq_true rfl) (by decide) rfl (Nat.le_of_ble_eq_true rfl) (fun X hG hX => ?_)
  have hG : G TM X RX7 cX7_takes 3 2 43 (some .int) := hG
  show J TM X 3 0 [some (aR 0), some (aI 0), none] [] μ
  refine J.aload_n hG dX7_takes_0 rfl rfl ?_
  refine J.callV hG (X7_isWell _) ok_X7_isWell ml_X7_104 rfl rfl rfl rfl (Nat.le_of_ble_eq_true rfl) ⟨Nat.le_of_ble_eq_true rfl, Nat.le_of_ble_eq_true rfl⟩ dX7_takes_1 rfl (fun r1 μ1 hp1 => ?_)
  obtain ⟨rfl, rfl⟩ := hp1
  refine J.ifb_ne hG 9 dX7_takes_4 rfl (fun h4 => ?_) (fun h4 => absurd h4 (by omega))
  refine J.iload_n hG dX7_takes_9 rfl rfl ?_
  refine J.if_ne hG 23 dX7_takes_10 rfl (fun h10 => absurd h10 (by omega)) (fun h10 => ?_)
  refine J.aload_n hG dX7_takes_13 rfl rfl ?_
  refine J.aload_n hG dX7_takes_14 rfl rfl ?_
  refine J.getI hG ciX7 rfl 6 6 rfl (Nat.le_of_ble_eq_true rfl) rfl fl_X7_92 dX7_takes_15 ?_
  refine J.putI hG ciX7 rfl 8 8 rfl (Nat.le_of_ble_eq_true rfl) rfl fl_X7_101 rfl rfl dX7_takes_18 ?_
  refine J.iconst hG dX7_takes_21 (by decide) ?_
  refine J.iret hG dX7_takes_22 ?_
  rw [hX]; dsimp only
  exact ⟨rfl, rfl⟩

set_option maxRecDepth 100000 in
set_option maxHeartbeats 4000000 in
theorem X7_takes_t (μ : Mem) (h8 : μ 0 8 < 0) (hT : MT μ) (j : Nat) (hj : AtJ j μ) (h5 : ¬ μ 0 5 = 0) : CT TM md_X7_takes [aR 0, aI 1] μ (fun rv μ1 => rv = some (aI (μ 0 7)) ∧ FrL μ μ1 ∧ AtJ (j + 1) μ1) := by
  refine CT.of (Nat.le_of_ble_eq_true rfl) (by decide) rfl (Nat.le_of_ble_eq_true rfl) (fun X hG hX => ?_)
  have hG : G TM X RX7 cX7_takes 3 2 43 (some .int) := hG
  show J TM X 3 0 [some (aR 0), some (aI 1), none] [] μ
  obtain ⟨n1, n2, n3⟩ := AtJ_next hj h5
  refine J.aload_n hG dX7_takes_0 rfl rfl ?_
  refine J.callV hG (X7_isWell _) ok_X7_isWell ml_X7_104 rfl rfl rfl rfl (Nat.le_of_ble_eq_true rfl) ⟨Nat.le_of_ble_eq_true rfl, Nat.le_of_ble_eq_true rfl⟩ dX7_takes_1 rfl (fun r1 μ1 hp1 => ?_)
  obtain ⟨rfl, rfl⟩ := hp1
  refine J.ifb_ne hG 9 dX7_takes_4 rfl (fun h4 => ?_) (fun h4 => absurd h4 (by omega))
  refine J.iload_n hG dX7_takes_9 rfl rfl ?_
  refine J.if_ne hG 23 dX7_takes_10 rfl (fun h10 => ?_) (fun h10 => absurd h10 (by omega))
  refine J.aload_n hG dX7_takes_23 rfl rfl ?_
  refine J.getI hG ciX7 rfl 7 7 rfl (Nat.le_of_ble_eq_true rfl) rfl fl_X7_98 dX7_takes_24 ?_
  refine J.istore_n hG dX7_takes_27 rfl (Nat.le_of_ble_eq_true rfl) ?_
  refine J.aload_n hG dX7_takes_28 rfl rfl ?_
  refine J.callV hG (X7_advances _ hT n1 n2) ok_X7_advances ml_X7_108 rfl rfl rfl rfl (Nat.le_of_ble_eq_true rfl) ⟨Nat.le_of_ble_eq_true rfl, Nat.le_of_ble_eq_true rfl⟩ dX7_takes_29 rfl (fun r1 μ1 hp1 => ?_)
  obtain ⟨rfl, hF, hA⟩ := hp1
  refine J.iload_n hG dX7_takes_32 rfl rfl ?_
  refine J.iret hG dX7_takes_33 ?_
  rw [hX]; dsimp only
  refine ⟨rfl, hF, ?_⟩
  unfold AtJ
  rw [hF.1 1 (by decide), hF.2 3 (by omega), ← n3]
  exact hA

set_option maxRecDepth 100000 in
set_option maxHeartbeats 4000000 in
theorem X7_number_b (μ : Mem) (lo hi : Int) (h8 : 0 ≤ μ 0 8) : CT TM md_X7_number [aR 0, aI lo, aI hi] μ (fun rv μ1 => rv = some (aI 0) ∧ μ1 = μ) := by
  refine CT.of (Nat.le_of_ble_eq_true rfl) (by decide) rfl (Nat.le_of_ble_eq_true rfl) (fun X hG hX => ?_)
  have hG : G TM X RX7 cX7_number 3 3 65 (some .int) := hG
  show J TM X 3 0 [some (aR 0), some (aI lo), some (aI hi)] [] μ
  refine J.aload_n hG dX7_number_0 rfl rfl ?_
  refine J.aload_n hG dX7_number_1 rfl rfl ?_
  refine J.getI hG ciX7 rfl 5 5 rfl (Nat.le_of_ble_eq_true rfl) rfl fl_X7_95 dX7_number_2 ?_
  refine J.iconst hG dX7_number_5 (by decide) ?_
  refine J.icmp_ne hG 25 dX7_number_6 rfl (fun h6 => ?_) (fun h6 => ?_)
  · refine J.iconst hG dX7_number_25 (by decide) ?_
    refine J.callV hG (X7_takes_b _ _ h8) ok_X7_takes ml_X7_111 rfl rfl rfl rfl (Nat.le_of_ble_eq_true rfl) ⟨Nat.le_of_ble_eq_true rfl, Nat.le_of_ble_eq_true rfl⟩ dX7_number_26 rfl (fun r1 μ1 hp1 => ?_)
    obtain ⟨rfl, rfl⟩ := hp1
    refine J.iret hG dX7_number_29 ?_
    rw [hX]; dsimp only
    exact ⟨rfl, rfl⟩
  · refine J.aload_n hG dX7_number_9 rfl rfl ?_
    refine J.getI hG ciX7 rfl 7 7 rfl (Nat.le_of_ble_eq_true rfl) rfl fl_X7_98 dX7_number_10 ?_
    refine J.iload_n hG dX7_number_13 rfl rfl ?_
    refine J.iload_n hG dX7_number_14 rfl rfl ?_
    refine J.callS hG (X7_in _ _ _ _) ok_X7_in ml_X7_78 rfl (Nat.le_of_ble_eq_true rfl) ⟨Nat.le_of_ble_eq_true rfl, Nat.le_of_ble_eq_true rfl⟩ dX7_number_15 rfl (fun r1 μ1 hp1 => ?_)
    obtain ⟨rfl, rfl⟩ := hp1
    refine J.ifb_eq hG 25 dX7_number_18 rfl (fun h18 => ?_) (fun h18 => ?_)
    · refine J.iconst hG dX7_number_25 (by decide) ?_
      refine J.callV hG (X7_takes_b _ _ h8) ok_X7_takes ml_X7_111 rfl rfl rfl rfl (Nat.le_of_ble_eq_true rfl) ⟨Nat.le_of_ble_eq_true rfl, Nat.le_of_ble_eq_true rfl⟩ dX7_number_26 rfl (fun r1 μ1 hp1 => ?_)
      obtain ⟨rfl, rfl⟩ := hp1
      refine J.iret hG dX7_number_29 ?_
      rw [hX]; dsimp only
      exact ⟨rfl, rfl⟩
    · refine J.iconst hG dX7_number_21 (by decide) ?_
      refine J.goto hG 26 dX7_number_22 rfl ?_
      refine J.callV hG (X7_takes_b _ _ h8) ok_X7_takes ml_X7_111 rfl rfl rfl rfl (Nat.le_of_ble_eq_true rfl) ⟨Nat.le_of_ble_eq_true rfl, Nat.le_of_ble_eq_true rfl⟩ dX7_number_26 rfl (fun r1 μ1 hp1 => ?_)
      obtain ⟨rfl, rfl⟩ := hp1
      refine J.iret hG dX7_number_29 ?_
      rw [hX]; dsimp only
      exact ⟨rfl, rfl⟩

set_option maxRecDepth 100000 in
set_option maxHeartbeats 4000000 in
theorem X7_number (μ : Mem) (lo hi : Int) (h8 : μ 0 8 < 0) (hT : MT μ) (j : Nat) (hj : AtJ j μ) : CT TM md_X7_number [aR 0, aI lo, aI hi] μ (fun rv μ1 => ((μ 0 5 = 2 ∧ lo ≤ μ 0 7 ∧ μ 0 7 ≤ hi) ∧ rv = some (aI (μ 0 7)) ∧ FrL μ μ1 ∧ AtJ (j + 1) μ1) ∨ (¬ (μ 0 5 = 2 ∧ lo ≤ μ 0 7 ∧ μ 0 7 ≤ hi) ∧ rv = some (aI 0) ∧ μ1 = up μ 0 8 (μ 0 6))) := by
  refine CT.of (Nat.le_of_ble_eq_true rfl) (by decide) rfl (Nat.le_of_ble_eq_true rfl) (fun X hG hX => ?_)
  have hG : G TM X RX7 cX7_number 3 3 65 (some .int) := hG
  show J TM X 3 0 [some (aR 0), some (aI lo), some (aI hi)] [] μ
  refine J.aload_n hG dX7_number_0 rfl rfl ?_
  refine J.aload_n hG dX7_number_1 rfl rfl ?_
  refine J.getI hG ciX7 rfl 5 5 rfl (Nat.le_of_ble_eq_true rfl) rfl fl_X7_95 dX7_number_2 ?_
  refine J.iconst hG dX7_number_5 (by decide) ?_
  refine J.icmp_ne hG 25 dX7_number_6 rfl (fun h6 => ?_) (fun h6 => ?_)
  · refine J.iconst hG dX7_number_25 (by decide) ?_
    refine J.callV hG (X7_takes_f _ h8) ok_X7_takes ml_X7_111 rfl rfl rfl rfl (Nat.le_of_ble_eq_true rfl) ⟨Nat.le_of_ble_eq_true rfl, Nat.le_of_ble_eq_true rfl⟩ dX7_number_26 rfl (fun r1 μ1 hp1 => ?_)
    obtain ⟨rfl, rfl⟩ := hp1
    refine J.iret hG dX7_number_29 ?_
    rw [hX]; dsimp only
    exact Or.inr ⟨by omega, rfl, rfl⟩
  · refine J.aload_n hG dX7_number_9 rfl rfl ?_
    refine J.getI hG ciX7 rfl 7 7 rfl (Nat.le_of_ble_eq_true rfl) rfl fl_X7_98 dX7_number_10 ?_
    refine J.iload_n hG dX7_number_13 rfl rfl ?_
    refine J.iload_n hG dX7_number_14 rfl rfl ?_
    refine J.callS hG (X7_in _ _ _ _) ok_X7_in ml_X7_78 rfl (Nat.le_of_ble_eq_true rfl) ⟨Nat.le_of_ble_eq_true rfl, Nat.le_of_ble_eq_true rfl⟩ dX7_number_15 rfl (fun r1 μ1 hp1 => ?_)
    obtain ⟨rfl, rfl⟩ := hp1
    refine J.ifb_eq hG 25 dX7_number_18 rfl (fun h18 => ?_) (fun h18 => ?_)
    · refine J.iconst hG dX7_number_25 (by decide) ?_
      refine J.callV hG (X7_takes_f _ h8) ok_X7_takes ml_X7_111 rfl rfl rfl rfl (Nat.le_of_ble_eq_true rfl) ⟨Nat.le_of_ble_eq_true rfl, Nat.le_of_ble_eq_true rfl⟩ dX7_number_26 rfl (fun r1 μ1 hp1 => ?_)
      obtain ⟨rfl, rfl⟩ := hp1
      refine J.iret hG dX7_number_29 ?_
      rw [hX]; dsimp only
      exact Or.inr ⟨by omega, rfl, rfl⟩
    · refine J.iconst hG dX7_number_21 (by decide) ?_
      refine J.goto hG 26 dX7_number_22 rfl ?_
      refine J.callV hG (X7_takes_t _ h8 hT j hj (by omega)) ok_X7_takes ml_X7_111 rfl rfl rfl rfl (Nat.le_of_ble_eq_true rfl) ⟨Nat.le_of_ble_eq_true rfl, Nat.le_of_ble_eq_true rfl⟩ dX7_number_26 rfl (fun r1 μ1 hp1 => ?_)
      obtain ⟨rfl, hF, hA⟩ := hp1
      refine J.iret hG dX7_number_29 ?_
      rw [hX]; dsimp only
      exact Or.inl ⟨by omega, rfl, hF, hA⟩

def mMay (μ : Mem) : Int := if μ 0 7 = 115 then (if μ 0 18 < 4 ∧ μ 0 19 = 0 then 1 else 0) else if μ 0 7 = 108 then (if μ 0 19 < 4 then 1 else 0) else if μ 0 7 = 112 then (if μ 0 20 < 8 then 1 else 0) else if μ 0 21 = -9 then 1 else 0
set_option maxRecDepth 100000 in
set_option maxHeartbeats 4000000 in
theorem X7_mayBegin (μ : Mem)  : CT TM md_X7_mayBegin [aR 0] μ (fun rv μ1 => rv = some (aI (mMay μ)) ∧ μ = μ1) := by
  refine CT.of (Nat.le_of_ble_eq_true rfl) (by decide) rfl (Nat.le_of_ble_eq_true rfl) (fun X hG hX => ?_)
  have hG : G TM X RX7 cX7_mayBegin 1 0 0 (some .boolean) := hG
  show J TM X 1 0 [some (aR 0)] [] μ
  refine J.aload_n hG dX7_mayBegin_0 rfl rfl ?_
  refine J.getI hG ciX7 rfl 7 7 rfl (Nat.le_of_ble_eq_true rfl) rfl fl_X7_98 dX7_mayBegin_1 ?_
  refine J.bipush hG dX7_mayBegin_4 (by decide) (by decide) ?_
  refine J.icmp_ne hG 30 dX7_mayBegin_6 rfl (fun h6 => ?_) (fun h6 => ?_)
  · refine J.aload_n hG dX7_mayBegin_30 rfl rfl ?_
    refine J.getI hG ciX7 rfl 7 7 rfl (Nat.le_of_ble_eq_true rfl) rfl fl_X7_98 dX7_mayBegin_31 ?_
    refine J.bipush hG dX7_mayBegin_34 (by decide) (by decide) ?_
    refine J.icmp_ne hG 55 dX7_mayBegin_36 rfl (fun h36 => ?_) (fun h36 => ?_)
    · refine J.aload_n hG dX7_mayBegin_55 rfl rfl ?_
      refine J.getI hG ciX7 rfl 7 7 rfl (Nat.le_of_ble_eq_true rfl) rfl fl_X7_98 dX7_mayBegin_56 ?_
      refine J.bipush hG dX7_mayBegin_59 (by decide) (by decide) ?_
      refine J.icmp_ne hG 81 dX7_mayBegin_61 rfl (fun h61 => ?_) (fun h61 => ?_)
      · refine J.aload_n hG dX7_mayBegin_81 rfl rfl ?_
        refine J.getI hG ciX7 rfl 21 21 rfl (Nat.le_of_ble_eq_true rfl) rfl fl_X7_124 dX7_mayBegin_82 ?_
        refine J.bipush hG dX7_mayBegin_85 (by decide) (by decide) ?_
        refine J.icmp_ne hG 94 dX7_mayBegin_87 rfl (fun h87 => ?_) (fun h87 => ?_)
        · refine J.iconst hG dX7_mayBegin_94 (by decide) ?_
          refine J.zret hG (by first | exact Or.inl rfl | exact Or.inr rfl | assumption | (split <;> first | exact Or.inl rfl | exact Or.inr rfl)) dX7_mayBegin_95 ?_
          rw [hX]; dsimp only
          exact ⟨by congr 2; unfold mMay; (repeat' split) <;> first | rfl | (exfalso; omega), rfl⟩
        · refine J.iconst hG dX7_mayBegin_90 (by decide) ?_
          refine J.goto hG 95 dX7_mayBegin_91 rfl ?_
          refine J.zret hG (by first | exact Or.inl rfl | exact Or.inr rfl | assumption | (split <;> first | exact Or.inl rfl | exact Or.inr rfl)) dX7_mayBegin_95 ?_
          rw [hX]; dsimp only
          exact ⟨by congr 2; unfold mMay; (repeat' split) <;> first | rfl | (exfalso; omega), rfl⟩
      · refine J.aload_n hG dX7_mayBegin_64 rfl rfl ?_
        refine J.getI hG ciX7 rfl 20 20 rfl (Nat.le_of_ble_eq_true rfl) rfl fl_X7_121 dX7_mayBegin_65 ?_
        refine J.bipush hG dX7_mayBegin_68 (by decide) (by decide) ?_
        refine J.icmp_ge hG 77 dX7_mayBegin_70 rfl (fun h70 => ?_) (fun h70 => ?_)
        · refine J.iconst hG dX7_mayBegin_77 (by decide) ?_
          refine J.goto hG 95 dX7_mayBegin_78 rfl ?_
          refine J.zret hG (by first | exact Or.inl rfl | exact Or.inr rfl | assumption | (split <;> first | exact Or.inl rfl | exact Or.inr rfl)) dX7_mayBegin_95 ?_
          rw [hX]; dsimp only
          exact ⟨by congr 2; unfold mMay; (repeat' split) <;> first | rfl | (exfalso; omega), rfl⟩
        · refine J.iconst hG dX7_mayBegin_73 (by decide) ?_
          refine J.goto hG 95 dX7_mayBegin_74 rfl ?_
          refine J.zret hG (by first | exact Or.inl rfl | exact Or.inr rfl | assumption | (split <;> first | exact Or.inl rfl | exact Or.inr rfl)) dX7_mayBegin_95 ?_
          rw [hX]; dsimp only
          exact ⟨by congr 2; unfold mMay; (repeat' split) <;> first | rfl | (exfalso; omega), rfl⟩
    · refine J.aload_n hG dX7_mayBegin_39 rfl rfl ?_
      refine J.getI hG ciX7 rfl 19 19 rfl (Nat.le_of_ble_eq_true rfl) rfl fl_X7_118 dX7_mayBegin_40 ?_
      refine J.iconst hG dX7_mayBegin_43 (by decide) ?_
      refine J.icmp_ge hG 51 dX7_mayBegin_44 rfl (fun h44 => ?_) (fun h44 => ?_)
      · refine J.iconst hG dX7_mayBegin_51 (by decide) ?_
        refine J.goto hG 95 dX7_mayBegin_52 rfl ?_
        refine J.zret hG (by first | exact Or.inl rfl | exact Or.inr rfl | assumption | (split <;> first | exact Or.inl rfl | exact Or.inr rfl)) dX7_mayBegin_95 ?_
        rw [hX]; dsimp only
        exact ⟨by congr 2; unfold mMay; (repeat' split) <;> first | rfl | (exfalso; omega), rfl⟩
      · refine J.iconst hG dX7_mayBegin_47 (by decide) ?_
        refine J.goto hG 95 dX7_mayBegin_48 rfl ?_
        refine J.zret hG (by first | exact Or.inl rfl | exact Or.inr rfl | assumption | (split <;> first | exact Or.inl rfl | exact Or.inr rfl)) dX7_mayBegin_95 ?_
        rw [hX]; dsimp only
        exact ⟨by congr 2; unfold mMay; (repeat' split) <;> first | rfl | (exfalso; omega), rfl⟩
  · refine J.aload_n hG dX7_mayBegin_9 rfl rfl ?_
    refine J.getI hG ciX7 rfl 18 18 rfl (Nat.le_of_ble_eq_true rfl) rfl fl_X7_115 dX7_mayBegin_10 ?_
    refine J.iconst hG dX7_mayBegin_13 (by decide) ?_
    refine J.icmp_ge hG 28 dX7_mayBegin_14 rfl (fun h14 => ?_) (fun h14 => ?_)
    · refine J.iconst hG dX7_mayBegin_28 (by decide) ?_
      refine J.zret hG (by first | exact Or.inl rfl | exact Or.inr rfl | assumption | (split <;> first | exact Or.inl rfl | exact Or.inr rfl)) dX7_mayBegin_29 ?_
      rw [hX]; dsimp only
      exact ⟨by congr 2; unfold mMay; (repeat' split) <;> first | rfl | (exfalso; omega), rfl⟩
    · refine J.aload_n hG dX7_mayBegin_17 rfl rfl ?_
      refine J.getI hG ciX7 rfl 19 19 rfl (Nat.le_of_ble_eq_true rfl) rfl fl_X7_118 dX7_mayBegin_18 ?_
      refine J.if_ne hG 28 dX7_mayBegin_21 rfl (fun h21 => ?_) (fun h21 => ?_)
      · refine J.iconst hG dX7_mayBegin_28 (by decide) ?_
        refine J.zret hG (by first | exact Or.inl rfl | exact Or.inr rfl | assumption | (split <;> first | exact Or.inl rfl | exact Or.inr rfl)) dX7_mayBegin_29 ?_
        rw [hX]; dsimp only
        exact ⟨by congr 2; unfold mMay; (repeat' split) <;> first | rfl | (exfalso; omega), rfl⟩
      · refine J.iconst hG dX7_mayBegin_24 (by decide) ?_
        refine J.goto hG 29 dX7_mayBegin_25 rfl ?_
        refine J.zret hG (by first | exact Or.inl rfl | exact Or.inr rfl | assumption | (split <;> first | exact Or.inl rfl | exact Or.inr rfl)) dX7_mayBegin_29 ?_
        rw [hX]; dsimp only
        exact ⟨by congr 2; unfold mMay; (repeat' split) <;> first | rfl | (exfalso; omega), rfl⟩


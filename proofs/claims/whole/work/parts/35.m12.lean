/-- the reference stands at the token of that number -/
def AtJ (j : Nat) (μ : Mem) : Prop := AtT (μ 1) (μ 0 3) (Stk (μ 1) (μ 0 3) j) μ
theorem AtJ_next {j : Nat} {μ : Mem} (h : AtJ j μ) (hn : ¬ μ 0 5 = 0) : (0 ≤ μ 0 4 ∧ μ 0 4 ≤ μ 0 3) ∧ Bd (μ 1) (μ 0 3) (μ 0 4) ∧ nst (μ 1) (μ 0 3) (μ 0 4) = Stk (μ 1) (μ 0 3) (j + 1) := by
  rcases h.2 with q | q
  · exact absurd q.2.1 hn
  · exact ⟨q.2.2.1, q.2.2.2.1, q.2.2.2.2⟩

set_option maxRecDepth 100000 in
set_option maxHeartbeats 4000000 in
theorem X7_isWell (μ : Mem)  : CT TM md_X7_isWell [aR 0] μ (fun rv μ1 => rv = some (aI (if μ 0 8 < 0 then 1 else 0)) ∧ μ = μ1) := by
  refine CT.of (Nat.le_of_ble_eq_true rfl) (by decide) rfl (Nat.le_of_ble_eq_true rfl) (fun X hG hX => ?_)
  have hG : G TM X RX7 cX7_isWell 1 0 0 (some .boolean) := hG
  show J TM X 1 0 [some (aR 0)] [] μ
  refine J.aload_n hG dX7_isWell_0 rfl rfl ?_
  refine J.getI hG ciX7 rfl 8 8 rfl (Nat.le_of_ble_eq_true rfl) rfl fl_X7_101 dX7_isWell_1 ?_
  refine J.if_ge hG 11 dX7_isWell_4 rfl (fun h4 => ?_) (fun h4 => ?_)
  · refine J.iconst hG dX7_isWell_11 (by decide) ?_
    refine J.zret hG (by first | exact Or.inl rfl | exact Or.inr rfl | assumption | (split <;> first | exact Or.inl rfl | exact Or.inr rfl)) dX7_isWell_12 ?_
    rw [hX]; dsimp only
    exact ⟨by congr 2; (split <;> omega), rfl⟩
  · refine J.iconst hG dX7_isWell_7 (by decide) ?_
    refine J.goto hG 12 dX7_isWell_8 rfl ?_
    refine J.zret hG (by first | exact Or.inl rfl | exact Or.inr rfl | assumption | (split <;> first | exact Or.inl rfl | exact Or.inr rfl)) dX7_isWell_12 ?_
    rw [hX]; dsimp only
    exact ⟨by congr 2; (split <;> omega), rfl⟩

set_option maxRecDepth 100000 in
set_option maxHeartbeats 4000000 in
theorem X7_takes_b (μ : Mem) (b : Int) (h8 : 0 ≤ μ 0 8) : CT TM md_X7_takes [aR 0, aI b] μ (fun rv μ1 => rv = some (aI 0) ∧ μ1 = μ) := by
  refine CT.of (Nat.le_of_ble_eq_true rfl) (by decide) rfl (Nat.le_of_ble_eq_true rfl) (fun X hG hX => ?_)
  have hG : G TM X RX7 cX7_takes 3 2 43 (some .int) := hG
  show J TM X 3 0 [some (aR 0), some (aI b), none] [] μ
  refine J.aload_n hG dX7_takes_0 rfl rfl ?_
  refine J.callV hG (X7_isWell _) ok_X7_isWell ml_X7_104 rfl rfl rfl rfl (Nat.le_of_ble_eq_true rfl) ⟨Nat.le_of_ble_eq_true rfl, Nat.le_of_ble_eq_true rfl⟩ dX7_takes_1 rfl (fun r1 μ1 hp1 => ?_)
  obtain ⟨rfl, rfl⟩ := hp1
  refine J.ifb_ne hG 9 dX7_takes_4 rfl (fun h4 => absurd h4 (by omega)) (fun h4 => ?_)
  refine J.iconst hG dX7_takes_7 (by decide) ?_
  refine J.iret hG dX7_takes_8 ?_
  rw [hX]; dsimp only
  exact ⟨rfl, rfl⟩

set_option maxRecDepth 100000 in
set_option maxHeartbeats 4000000 in
theorem X7_takes_f (μ : Mem) (h8 : μ 0 8 < 0) : CT TM md_X7_takes [aR 0, aI 0] μ (fun rv μ1 => rv = some (aI 0) ∧ μ1 = up μ 0 8 (μ 0 6)) := by
  refine CT.of (Nat.le_of_ble_eq_true rfl) (by decide) rfl (Nat.le_of_ble_eq_true rfl) (fun X hG hX => ?_)
  have hG : G TM X RX7 cX7_takes 3 2 43 (some .int) := hG
  show J TM X 3 0 [some (aR 0), some (aI 0), none] [] μ
  refine J.aload_n hG dX7_takes_0 rfl rfl ?_
  refine J.callV hG (X7_isWell _) ok_X7_isWell ml_X7_104 rfl rfl rfl rfl (Nat.le_of_ble_eq_true rfl) ⟨Nat.le_of_ble_eq_true rfl, Nat.le_of_ble_eq_true rfl⟩ dX7_takes_1 rfl (fun r1 μ1 hp1 => ?_)
  obtain ⟨rfl, rfl⟩ := hp1
  refine J.ifb_ne hG 9 dX7_takes_4 rfl (fun h4 => ?_) (fun h4 => absurd h4 (by omega))
  refine J.iload_n hG dX7_takes_9 rfl rfl ?_
  refine J.if_ne hG 23 dX7_takes_10 rfl (fun h10 => absurd h10 (by omega)) (fun h10 => ?_)
  refine J.aload_n hG dX7_takes_13 rfl rfl ?_
  refine J.aload_n hG dX7_takes_14 rfl rfl ?_
  refine J.getI hG ciX7 rfl 6 6 rfl (Nat.le_of_ble_eq_true rfl) rfl fl_X7_92 dX7_takes_15 ?_
  refine J.putI hG ciX7 rfl 8 8 rfl (Nat.le_of_ble_eq_true rfl) rfl fl_X7_101 rfl rfl dX7_takes_18 ?_
  refine J.iconst hG dX7_takes_21 (by decide) ?_
  refine J.iret hG dX7_takes_22 ?_
  rw [hX]; dsimp only
  exact ⟨rfl, rfl⟩

set_option maxRecDepth 100000 in
set_option maxHeartbeats 4000000 in
theorem X7_takes_t (μ : Mem) (h8 : μ 0 8 < 0) (hT : MT μ) (j : Nat) (hj : AtJ j μ) (h5 : ¬ μ 0 5 = 0) : CT TM md_X7_takes [aR 0, aI 1] μ (fun rv μ1 => rv = some (aI (μ 0 7)) ∧ FrL μ μ1 ∧ AtJ (j + 1) μ1) := by
  refine CT.of (Nat.le_of_ble_eq_true rfl) (by decide) rfl (Nat.le_of_ble_eq_true rfl) (fun X hG hX => ?_)
  have hG : G TM X RX7 cX7_takes 3 2 43 (some .int) := hG
  show J TM X 3 0 [some (aR 0), some (aI 1), none] [] μ
  obtain ⟨n1, n2, n3⟩ := AtJ_next hj h5
  refine J.aload_n hG dX7_takes_0 rfl rfl ?_
  refine J.callV hG (X7_isWell _) ok_X7_isWell ml_X7_104 rfl rfl rfl rfl (Nat.le_of_ble_eq_true rfl) ⟨Nat.le_of_ble_eq_true rfl, Nat.le_of_ble_eq_true rfl⟩ dX7_takes_1 rfl (fun r1 μ1 hp1 => ?_)
  obtain ⟨rfl, rfl⟩ := hp1
  refine J.ifb_ne hG 9 dX7_takes_4 rfl (fun h4 => ?_) (fun h4 => absurd h4 (by omega))
  refine J.iload_n hG dX7_takes_9 rfl rfl ?_
  refine J.if_ne hG 23 dX7_takes_10 rfl (fun h10 => ?_) (fun h10 => absurd h10 (by omega))
  refine J.aload_n hG dX7_takes_23 rfl rfl ?_
  refine J.getI hG ciX7 rfl 7 7 rfl (Nat.le_of_ble_eq_true rfl) rfl fl_X7_98 dX7_takes_24 ?_
  refine J.istore_n hG dX7_takes_27 rfl (Nat.le_of_ble_eq_true rfl) ?_
  refine J.aload_n hG dX7_takes_28 rfl rfl ?_
  refine J.callV hG (X7_advances _ hT n1 n2) ok_X7_advances ml_X7_108 rfl rfl rfl rfl (Nat.le_of_ble_eq_true rfl) ⟨Nat.le_of_ble_eq_true rfl, Nat.le_of_ble_eq_true rfl⟩ dX7_takes_29 rfl (fun r1 μ1 hp1 => ?_)
  obtain ⟨rfl, hF, hA⟩ := hp1
  refine J.iload_n hG dX7_takes_32 rfl rfl ?_
  refine J.iret hG dX7_takes_33 ?_
  rw [hX]; dsimp only
  refine ⟨rfl, hF, ?_⟩
  unfold AtJ
  rw [hF.1 1 (by decide), hF.2 3 (by omega), ← n3]
  exact hA

set_option maxRecDepth 100000 in
set_option maxHeartbeats 4000000 in
theorem X7_number_b (μ : Mem) (lo hi : Int) (h8 : 0 ≤ μ 0 8) : CT TM md_X7_number [aR 0, aI lo, aI hi] μ (fun rv μ1 => rv = some (aI 0) ∧ μ1 = μ) := by
  refine CT.of (Nat.le_of_ble_eq_true rfl) (by decide) rfl (Nat.le_of_ble_eq_true rfl) (fun X hG hX => ?_)
  have hG : G TM X RX7 cX7_number 3 3 65 (some .int) := hG
  show J TM X 3 0 [some (aR 0), some (aI lo), some (aI hi)] [] μ
  refine J.aload_n hG dX7_number_0 rfl rfl ?_
  refine J.aload_n hG dX7_number_1 rfl rfl ?_
  refine J.getI hG ciX7 rfl 5 5 rfl (Nat.le_of_ble_eq_true rfl) rfl fl_X7_95 dX7_number_2 ?_
  refine J.iconst hG dX7_number_5 (by decide) ?_
  refine J.icmp_ne hG 25 dX7_number_6 rfl (fun h6 => ?_) (fun h6 => ?_)
  · refine J.iconst hG dX7_number_25 (by decide) ?_
    refine J.callV hG (X7_takes_b _ _ h8) ok_X7_takes ml_X7_111 rfl rfl rfl rfl (Nat.le_of_ble_eq_true rfl) ⟨Nat.le_of_ble_eq_true rfl, Nat.le_of_ble_eq_true rfl⟩ dX7_number_26 rfl (fun r1 μ1 hp1 => ?_)
    obtain ⟨rfl, rfl⟩ := hp1
    refine J.iret hG dX7_number_29 ?_
    rw [hX]; dsimp only
    exact ⟨rfl, rfl⟩
  · refine J.aload_n hG dX7_number_9 rfl rfl ?_
    refine J.getI hG ciX7 rfl 7 7 rfl (Nat.le_of_ble_eq_true rfl) rfl fl_X7_98 dX7_number_10 ?_
    refine J.iload_n hG dX7_number_13 rfl rfl ?_
    refine J.iload_n hG dX7_number_14 rfl rfl ?_
    refine J.callS hG (X7_in _ _ _ _) ok_X7_in ml_X7_78 rfl (Nat.le_of_ble_eq_true rfl) ⟨Nat.le_of_ble_eq_true rfl, Nat.le_of_ble_eq_true rfl⟩ dX7_number_15 rfl (fun r1 μ1 hp1 => ?_)
    obtain ⟨rfl, rfl⟩ := hp1
    refine J.ifb_eq hG 25 dX7_number_18 rfl (fun h18 => ?_) (fun h18 => ?_)
    · refine J.iconst hG dX7_number_25 (by decide) ?_
      refine J.callV hG (X7_takes_b _ _ h8) ok_X7_takes ml_X7_111 rfl rfl rfl rfl (Nat.le_of_ble_eq_true rfl) ⟨Nat.le_of_ble_eq_true rfl, Nat.le_of_ble_eq_true rfl⟩ dX7_number_26 rfl (fun r1 μ1 hp1 => ?_)
      obtain ⟨rfl, rfl⟩ := hp1
      refine J.iret hG dX7_number_29 ?_
      rw [hX]; dsimp only
      exact ⟨rfl, rfl⟩
    · refine J.iconst hG dX7_number_21 (by decide) ?_
      refine J.goto hG 26 dX7_number_22 rfl ?_
      refine J.callV hG (X7_takes_b _ _ h8) ok_X7_takes ml_X7_111 rfl rfl rfl rfl (Nat.le_of_ble_eq_true rfl) ⟨Nat.le_of_ble_eq_true rfl, Nat.le_of_ble_eq_true rfl⟩ dX7_number_26 rfl (fun r1 μ1 hp1 => ?_)
      obtain ⟨rfl, rfl⟩ := hp1
      refine J.iret hG dX7_number_29 ?_
      rw [hX]; dsimp only
      exact ⟨rfl, rfl⟩

set_option maxRecDepth 100000 in
set_option maxHeartbeats 4000000 in
theorem X7_number (μ : Mem) (lo hi : Int) (h8 : μ 0 8 < 0) (hT : MT μ) (j : Nat) (hj : AtJ j μ) : CT TM md_X7_number [aR 0, aI lo, aI hi] μ (fun rv μ1 => ((μ 0 5 = 2 ∧ lo ≤ μ 0 7 ∧ μ 0 7 ≤ hi) ∧ rv = some (aI (μ 0 7)) ∧ FrL μ μ1 ∧ AtJ (j + 1) μ1) ∨ (¬ (μ 0 5 = 2 ∧ lo ≤ μ 0 7 ∧ μ 0 7 ≤ hi) ∧ rv = some (aI 0) ∧ μ1 = up μ 0 8 (μ 0 6))) := by
  refine CT.of (Nat.le_of_ble_eq_true rfl) (by decide) rfl (Nat.le_of_ble_eq_true rfl) (fun X hG hX => ?_)
  have hG : G TM X RX7 cX7_number 3 3 65 (some .int) := hG
  show J TM X 3 0 [some (aR 0), some (aI lo), some (aI hi)] [] μ
  refine J.aload_n hG dX7_number_0 rfl rfl ?_
  refine J.aload_n hG dX7_number_1 rfl rfl ?_
  refine J.getI hG ciX7 rfl 5 5 rfl (Nat.le_of_ble_eq_true rfl) rfl fl_X7_95 dX7_number_2 ?_
  refine J.iconst hG dX7_number_5 (by decide) ?_
  refine J.icmp_ne hG 25 dX7_number_6 rfl (fun h6 => ?_) (fun h6 => ?_)
  · refine J.iconst hG dX7_number_25 (by decide) ?_
    refine J.callV hG (X7_takes_f _ h8) ok_X7_takes ml_X7_111 rfl rfl rfl rfl (Nat.le_of_ble_eq_true rfl) ⟨Nat.le_of_ble_eq_true rfl, Nat.le_of_ble_eq_true rfl⟩ dX7_number_26 rfl (fun r1 μ1 hp1 => ?_)
    obtain ⟨rfl, rfl⟩ := hp1
    refine J.iret hG dX7_number_29 ?_
    rw [hX]; dsimp only
    exact Or.inr ⟨by omega, rfl, rfl⟩
  · refine J.aload_n hG dX7_number_9 rfl rfl ?_
    refine J.getI hG ciX7 rfl 7 7 rfl (Nat.le_of_ble_eq_true rfl) rfl fl_X7_98 dX7_number_10 ?_
    refine J.iload_n hG dX7_number_13 rfl rfl ?_
    refine J.iload_n hG dX7_number_14 rfl rfl ?_
    refine J.callS hG (X7_in _ _ _ _) ok_X7_in ml_X7_78 rfl (Nat.le_of_ble_eq_true rfl) ⟨Nat.le_of_ble_eq_true rfl, Nat.le_of_ble_eq_true rfl⟩ dX7_number_15 rfl (fun r1 μ1 hp1 => ?_)
    obtain ⟨rfl, rfl⟩ := hp1
    refine J.ifb_eq hG 25 dX7_number_18 rfl (fun h18 => ?_) (fun h18 => ?_)
    · refine J.iconst hG dX7_number_25 (by decide) ?_
      refine J.callV hG (X7_takes_f _ h8) ok_X7_takes ml_X7_111 rfl rfl rfl rfl (Nat.le_of_ble_eq_true rfl) ⟨Nat.le_of_ble_eq_true rfl, Nat.le_of_ble_eq_true rfl⟩ dX7_number_26 rfl (fun r1 μ1 hp1 => ?_)
      obtain ⟨rfl, rfl⟩ := hp1
      refine J.iret hG dX7_number_29 ?_
      rw [hX]; dsimp only
      exact Or.inr ⟨by omega, rfl, rfl⟩
    · refine J.iconst hG dX7_number_21 (by decide) ?_
      refine J.goto hG 26 dX7_number_22 rfl ?_
      refine J.callV hG (X7_takes_t _ h8 hT j hj (by omega)) ok_X7_takes ml_X7_111 rfl rfl rfl rfl (Nat.le_of_ble_eq_true rfl) ⟨Nat.le_of_ble_eq_true rfl, Nat.le_of_ble_eq_true rfl⟩ dX7_number_26 rfl (fun r1 μ1 hp1 => ?_)
      obtain ⟨rfl, hF, hA⟩ := hp1
      refine J.iret hG dX7_number_29 ?_
      rw [hX]; dsimp only
      exact Or.inl ⟨by omega, rfl, hF, hA⟩

def mMay (μ : Mem) : Int := if μ 0 7 = 115 then (if μ 0 18 < 4 ∧ μ 0 19 = 0 then 1 else 0) else if μ 0 7 = 108 then (if μ 0 19 < 4 then 1 else 0) else if μ 0 7 = 112 then (if μ 0 20 < 8 then 1 else 0) else if μ 0 21 = -9 then 1 else 0
set_option maxRecDepth 100000 in
set_option maxHeartbeats 4000000 in
theorem X7_mayBegin (μ : Mem)  : CT TM md_X7_mayBegin [aR 0] μ (fun rv μ1 => rv = some (aI (mMay μ)) ∧ μ = μ1) := by
  refine CT.of (Nat.le_of_ble_eq_true rfl) (by decide) rfl (Nat.le_of_ble_eq_true rfl) (fun X hG hX => ?_)
  have hG : G TM X RX7 cX7_mayBegin 1 0 0 (some .boolean) := hG
  show J TM X 1 0 [some (aR 0)] [] μ
  refine J.aload_n hG dX7_mayBegin_0 rfl rfl ?_
  refine J.getI hG ciX7 rfl 7 7 rfl (Nat.le_of_ble_eq_true rfl) rfl fl_X7_98 dX7_mayBegin_1 ?_
  refine J.bipush hG dX7_mayBegin_4 (by decide) (by decide) ?_
  refine J.icmp_ne hG 30 dX7_mayBegin_6 rfl (fun h6 => ?_) (fun h6 => ?_)
  · refine J.aload_n hG dX7_mayBegin_30 rfl rfl ?_
    refine J.getI hG ciX7 rfl 7 7 rfl (Nat.le_of_ble_eq_true rfl) rfl fl_X7_98 dX7_mayBegin_31 ?_
    refine J.bipush hG dX7_mayBegin_34 (by decide) (by decide) ?_
    refine J.icmp_ne hG 55 dX7_mayBegin_36 rfl (fun h36 => ?_) (fun h36 => ?_)
    · refine J.aload_n hG dX7_mayBegin_55 rfl rfl ?_
      refine J.getI hG ciX7 rfl 7 7 rfl (Nat.le_of_ble_eq_true rfl) rfl fl_X7_98 dX7_mayBegin_56 ?_
      refine J.bipush hG dX7_mayBegin_59 (by decide) (by decide) ?_
      refine J.icmp_ne hG 81 dX7_mayBegin_61 rfl (fun h61 => ?_) (fun h61 => ?_)
      · refine J.aload_n hG dX7_mayBegin_81 rfl rfl ?_
        refine J.getI hG ciX7 rfl 21 21 rfl (Nat.le_of_ble_eq_true rfl) rfl fl_X7_124 dX7_mayBegin_82 ?_
        refine J.bipush hG dX7_mayBegin_85 (by decide) (by decide) ?_
        refine J.icmp_ne hG 94 dX7_mayBegin_87 rfl (fun h87 => ?_) (fun h87 => ?_)
        · refine J.iconst hG dX7_mayBegin_94 (by decide) ?_
          refine J.zret hG (by first | exact Or.inl rfl | exact Or.inr rfl | assumption | (split <;> first | exact Or.inl rfl | exact Or.inr rfl)) dX7_mayBegin_95 ?_
          rw [hX]; dsimp only
          exact ⟨by congr 2; unfold mMay; (repeat' split) <;> first | rfl | (exfalso; omega), rfl⟩
        · refine J.iconst hG dX7_mayBegin_90 (by decide) ?_
          refine J.goto hG 95 dX7_mayBegin_91 rfl ?_
          refine J.zret hG (by first | exact Or.inl rfl | exact Or.inr rfl | assumption | (split <;> first | exact Or.inl rfl | exact Or.inr rfl)) dX7_mayBegin_95 ?_
          rw [hX]; dsimp only
          exact ⟨by congr 2; unfold mMay; (repeat' split) <;> first | rfl | (exfalso; omega), rfl⟩
      · refine J.aload_n hG dX7_mayBegin_64 rfl rfl ?_
        refine J.getI hG ciX7 rfl 20 20 rfl (Nat.le_of_ble_eq_true rfl) rfl fl_X7_121 dX7_mayBegin_65 ?_
        refine J.bipush hG dX7_mayBegin_68 (by decide) (by decide) ?_
        refine J.icmp_ge hG 77 dX7_mayBegin_70 rfl (fun h70 => ?_) (fun h70 => ?_)
        · refine J.iconst hG dX7_mayBegin_77 (by decide) ?_
          refine J.goto hG 95 dX7_mayBegin_78 rfl ?_
          refine J.zret hG (by first | exact Or.inl rfl | exact Or.inr rfl | assumption | (split <;> first | exact Or.inl rfl | exact Or.inr rfl)) dX7_mayBegin_95 ?_
          rw [hX]; dsimp only
          exact ⟨by congr 2; unfold mMay; (repeat' split) <;> first | rfl | (exfalso; omega), rfl⟩
        · refine J.iconst hG dX7_mayBegin_73 (by decide) ?_
          refine J.goto hG 95 dX7_mayBegin_74 rfl ?_
          refine J.zret hG (by first | exact Or.inl rfl | exact Or.inr rfl | assumption | (split <;> first | exact Or.inl rfl | exact Or.inr rfl)) dX7_mayBegin_95 ?_
          rw [hX]; dsimp only
          exact ⟨by congr 2; unfold mMay; (repeat' split) <;> first | rfl | (exfalso; omega), rfl⟩
    · refine J.aload_n hG dX7_mayBegin_39 rfl rfl ?_
      refine J.getI hG ciX7 rfl 19 19 rfl (Nat.le_of_ble_eq_true rfl) rfl fl_X7_118 dX7_mayBegin_40 ?_
      refine J.iconst hG dX7_mayBegin_43 (by decide) ?_
      refine J.icmp_ge hG 51 dX7_mayBegin_44 rfl (fun h44 => ?_) (fun h44 => ?_)
      · refine J.iconst hG dX7_mayBegin_51 (by decide) ?_
        refine J.goto hG 95 dX7_mayBegin_52 rfl ?_
        refine J.zret hG (by first | exact Or.inl rfl | exact Or.inr rfl | assumption | (split <;> first | exact Or.inl rfl | exact Or.inr rfl)) dX7_mayBegin_95 ?_
        rw [hX]; dsimp only
        exact ⟨by congr 2; unfold mMay; (repeat' split) <;> first | rfl | (exfalso; omega), rfl⟩
      · refine J.iconst hG dX7_mayBegin_47 (by decide) ?_
        refine J.goto hG 95 dX7_mayBegin_48 rfl ?_
        refine J.zret hG (by first | exact Or.inl rfl | exact Or.inr rfl | assumption | (split <;> first | exact Or.inl rfl | exact Or.inr rfl)) dX7_mayBegin_95 ?_
        rw [hX]; dsimp only
        exact ⟨by congr 2; unfold mMay; (repeat' split) <;> first | rfl | (exfalso; omega), rfl⟩
  · refine J.aload_n hG dX7_mayBegin_9 rfl rfl ?_
    refine J.getI hG ciX7 rfl 18 18 rfl (Nat.le_of_ble_eq_true rfl) rfl fl_X7_115 dX7_mayBegin_10 ?_
    refine J.iconst hG dX7_mayBegin_13 (by decide) ?_
    refine J.icmp_ge hG 28 dX7_mayBegin_14 rfl (fun h14 => ?_) (fun h14 => ?_)
    · refine J.iconst hG dX7_mayBegin_28 (by decide) ?_
      refine J.zret hG (by first | exact Or.inl rfl | exact Or.inr rfl | assumption | (split <;> first | exact Or.inl rfl | exact Or.inr rfl)) dX7_mayBegin_29 ?_
      rw [hX]; dsimp only
      exact ⟨by congr 2; unfold mMay; (repeat' split) <;> first | rfl | (exfalso; omega), rfl⟩
    · refine J.aload_n hG dX7_mayBegin_17 rfl rfl ?_
      refine J.getI hG ciX7 rfl 19 19 rfl (Nat.le_of_ble_eq_true rfl) rfl fl_X7_118 dX7_mayBegin_18 ?_
      refine J.if_ne hG 28 dX7_mayBegin_21 rfl (fun h21 => ?_) (fun h21 => ?_)
      · refine J.iconst hG dX7_mayBegin_28 (by decide) ?_
        refine J.zret hG (by first | exact Or.inl rfl | exact Or.inr rfl | assumption | (split <;> first | exact Or.inl rfl | exact Or.inr rfl)) dX7_mayBegin_29 ?_
        rw [hX]; dsimp only
        exact ⟨by congr 2; unfold mMay; (repeat' split) <;> first | rfl | (exfalso; omega), rfl⟩
      · refine J.iconst hG dX7_mayBegin_24 (by decide) ?_
        refine J.goto hG 29 dX7_mayBegin_25 rfl ?_
        refine J.zret hG (by first | exact Or.inl rfl | exact Or.inr rfl | assumption | (split <;> first | exact Or.inl rfl | exact Or.inr rfl)) dX7_mayBegin_29 ?_
        rw [hX]; dsimp only
        exact ⟨by congr 2; unfold mMay; (repeat' split) <;> first | rfl | (exfalso; omega), rfl⟩

/-- the draft has become the land -/
def Settled (μ μ1 : Mem) : Prop := (∀ c : Nat, c ≠ 0 → c ≠ 2 → c ≠ 3 → c ≠ 4 → c ≠ 5 → c ≠ 6 → c ≠ 7 → c ≠ 10 → μ1 c = μ c) ∧ (μ1 0 14 = μ 0 18 ∧ μ1 0 15 = μ 0 19 ∧ μ1 0 16 = μ 0 20 ∧ μ1 0 17 = (if μ 0 21 = -9 then 2 else μ 0 21) ∧ μ1 0 3 = 0 ∧ μ1 0 27 = 0 ∧ μ1 0 30 = 0 ∧ μ1 0 34 = 0 ∧ ∀ j : Int, j ≠ 14 → j ≠ 15 → j ≠ 16 → j ≠ 17 → j ≠ 3 → j ≠ 27 → j ≠ 30 → j ≠ 34 → μ1 0 j = μ 0 j) ∧ (∀ j : Int, 0 ≤ j → j < 4 → μ1 2 j = μ 2 (4 + j)) ∧ (∀ j : Int, 0 ≤ j → j < 8 → μ1 3 j = μ 3 (8 + j) ∧ μ1 6 j = μ 6 (8 + j) ∧ μ1 7 j = μ 3 (8 + j)) ∧ (∀ j : Int, 0 ≤ j → j < 16 → μ1 4 j = μ 4 (16 + j) ∧ μ1 5 j = μ 5 (16 + j) ∧ μ1 7 (8 + j) = μ 4 (16 + j)) ∧ μ1 7 24 = 0 ∧ μ1 7 25 = 0 ∧ μ1 10 0 = 0 ∧ μ1 10 1 = 0
set_option maxRecDepth 100000 in
set_option maxHeartbeats 4000000 in
theorem X7_settles (μ : Mem)  : CT TM md_X7_settles [aR 0] μ (fun rv μ1 => rv = none ∧ Settled μ μ1) := by
  refine CT.of (Nat.le_of_ble_eq_true rfl) (by decide) rfl (Nat.le_of_ble_eq_true rfl) (fun X hG hX => ?_)
  have hG : G TM X RX7 cX7_settles 2 0 0 none := hG
  show J TM X 2 0 [some (aR 0), none] [] μ
  have go : ∀ ν0 : Mem, (∀ c : Nat, c ≠ 0 → ν0 c = μ c) → ν0 0 14 = μ 0 18 → ν0 0 15 = μ 0 19 → ν0 0 16 = μ 0 20 → ν0 0 17 = (if μ 0 21 = -9 then 2 else μ 0 21) → (∀ j : Int, j ≠ 14 → j ≠ 15 → j ≠ 16 → j ≠ 17 → ν0 0 j = μ 0 j) → J TM X 2 47 [some (aR 0), some (aI 0)] [] ν0 := by
    intro ν0 k0 k1 k2 k3 k4 k5
    have lpC : ∀ (k : Nat) (i : Int) (ν : Mem), 0 ≤ i → i + k = 16 → (∀ c : Nat, c ≠ 2 → c ≠ 3 → c ≠ 4 → c ≠ 5 → c ≠ 6 → c ≠ 7 → ν c = ν0 c) → (∀ j : Int, 0 ≤ j → j < 4 → ν 2 j = μ 2 (4 + j)) → (∀ j : Int, 0 ≤ j → j < 8 → ν 3 j = μ 3 (8 + j) ∧ ν 6 j = μ 6 (8 + j) ∧ ν 7 j = μ 3 (8 + j)) → (∀ j : Int, 0 ≤ j → j < i → ν 4 j = μ 4 (16 + j) ∧ ν 5 j = μ 5 (16 + j) ∧ ν 7 (8 + j) = μ 4 (16 + j)) → (∀ j : Int, 16 ≤ j → ν 4 j = μ 4 j ∧ ν 5 j = μ 5 j) → J TM X 2 130 [some (aR 0), some (aI i)] [] ν := by
      intro k
      induction k with
      | zero =>
        intro i ν i0 i1 hF hA hB hC hD
        have e0 := hF 0 (by decide) (by decide) (by decide) (by decide) (by decide) (by decide)
        refine J.iload_n hG dX7_settles_130 rfl rfl ?_
        refine J.bipush hG dX7_settles_131 (by decide) (by decide) ?_
        refine J.icmp_ge hG 187 dX7_settles_133 rfl (fun h133 => ?_) (fun h133 => absurd h133 (by omega))
        refine J.aload_n hG dX7_settles_187 rfl rfl ?_
        refine J.getR hG ciX7 rfl 22 22 rfl (Nat.le_of_ble_eq_true rfl) rfl fl_X7_28 dX7_settles_188 ?_
        refine J.bipush hG dX7_settles_191 (by decide) (by decide) ?_
        refine J.iconst hG dX7_settles_193 (by decide) ?_
        refine J.iast hG rfl (by omega) (by omega) dX7_settles_194 ?_
        refine J.aload_n hG dX7_settles_195 rfl rfl ?_
        refine J.getR hG ciX7 rfl 22 22 rfl (Nat.le_of_ble_eq_true rfl) rfl fl_X7_28 dX7_settles_196 ?_
        refine J.bipush hG dX7_settles_199 (by decide) (by decide) ?_
        refine J.iconst hG dX7_settles_201 (by decide) ?_
        refine J.iast hG rfl (by omega) (by omega) dX7_settles_202 ?_
        refine J.aload_n hG dX7_settles_203 rfl rfl ?_
        refine J.iconst hG dX7_settles_204 (by decide) ?_
        refine J.putI hG ciX7 rfl 3 3 rfl (Nat.le_of_ble_eq_true rfl) rfl fl_X7_82 rfl rfl dX7_settles_205 ?_
        refine J.aload_n hG dX7_settles_208 rfl rfl ?_
        refine J.iconst hG dX7_settles_209 (by decide) ?_
        refine J.putI hG ciX7 rfl 27 27 rfl (Nat.le_of_ble_eq_true rfl) rfl fl_X7_150 rfl rfl dX7_settles_210 ?_
        refine J.aload_n hG dX7_settles_213 rfl rfl ?_
        refine J.iconst hG dX7_settles_214 (by decide) ?_
        refine J.putI hG ciX7 rfl 30 30 rfl (Nat.le_of_ble_eq_true rfl) rfl fl_X7_153 rfl rfl dX7_settles_215 ?_
        refine J.aload_n hG dX7_settles_218 rfl rfl ?_
        refine J.iconst hG dX7_settles_219 (by decide) ?_
        refine J.putI hG ciX7 rfl 34 34 rfl (Nat.le_of_ble_eq_true rfl) rfl fl_X7_156 rfl rfl dX7_settles_220 ?_
        refine J.aload_n hG dX7_settles_223 rfl rfl ?_
        refine J.getR hG ciX7 rfl 25 25 rfl (Nat.le_of_ble_eq_true rfl) rfl fl_X7_37 dX7_settles_224 ?_
        refine J.iconst hG dX7_settles_227 (by decide) ?_
        refine J.iconst hG dX7_settles_228 (by decide) ?_
        refine J.zast hG rfl (by omega) (by omega) (by exact Or.inl rfl) dX7_settles_229 ?_
        refine J.aload_n hG dX7_settles_230 rfl rfl ?_
        refine J.getR hG ciX7 rfl 25 25 rfl (Nat.le_of_ble_eq_true rfl) rfl fl_X7_37 dX7_settles_231 ?_
        refine J.iconst hG dX7_settles_234 (by decide) ?_
        refine J.iconst hG dX7_settles_235 (by decide) ?_
        refine J.zast hG rfl (by omega) (by omega) (by first | exact Or.inl rfl | exact Or.inr rfl) dX7_settles_236 ?_
        refine J.vret hG dX7_settles_237 ?_
        rw [hX]; dsimp only
        refine ⟨rfl, fun c a1 a2 a3 a4 a5 a6 a7 a8 => ?_, ⟨?_, ?_, ?_, ?_, ?_, ?_, ?_, ?_, fun j b1 b2 b3 b4 b5 b6 b7 b8 => ?_⟩, fun j c1 c2 => ?_, fun j c1 c2 => ?_, fun j c1 c2 => ?_, ?_, ?_, ?_, ?_⟩
        · (repeat rw [up_cell _ _ _ (by omega)])
          rw [hF c a2 a3 a4 a5 a6 a7, k0 c a1]
        · simp [up]; rw [e0]; exact k1
        · simp [up]; rw [e0]; exact k2
        · simp [up]; rw [e0]; exact k3
        · simp [up]; rw [e0]; exact k4
        · simp [up]
        · simp [up]
        · simp [up]
        · simp [up]
        · simp [up, b1, b2, b3, b4, b5, b6, b7, b8]; rw [e0]; exact k5 j b1 b2 b3 b4
        · simp [up]; exact hA j c1 c2
        · have := hB j c1 c2
          refine ⟨by simp [up]; exact this.1, by simp [up]; exact this.2.1, ?_⟩
          simp [up, show ¬ j = 25 by omega, show ¬ j = 24 by omega]
          exact this.2.2
        · have := hC j c1 (by omega)
          refine ⟨by simp [up]; exact this.1, by simp [up]; exact this.2.1, ?_⟩
          simp [up, show ¬ 8 + j = 25 by omega, show ¬ 8 + j = 24 by omega]
          exact this.2.2
        · simp [up]
        · simp [up]
        · simp [up]
        · simp [up]
      | succ k ih =>
        intro i ν i0 i1 hF hA hB hC hD
        refine J.iload_n hG dX7_settles_130 rfl rfl ?_
        refine J.bipush hG dX7_settles_131 (by decide) (by decide) ?_
        refine J.icmp_ge hG 187 dX7_settles_133 rfl (fun h133 => absurd h133 (by omega)) (fun h133 => ?_)
        refine J.aload_n hG dX7_settles_136 rfl rfl ?_
        refine J.getR hG ciX7 rfl 11 11 rfl (Nat.le_of_ble_eq_true rfl) rfl fl_X7_19 dX7_settles_137 ?_
        refine J.iload_n hG dX7_settles_140 rfl rfl ?_
        refine J.aload_n hG dX7_settles_141 rfl rfl ?_
        refine J.getR hG ciX7 rfl 11 11 rfl (Nat.le_of_ble_eq_true rfl) rfl fl_X7_19 dX7_settles_142 ?_
        refine J.bipush hG dX7_settles_145 (by decide) (by decide) ?_
        refine J.iload_n hG dX7_settles_147 rfl rfl ?_
        refine J.iadd hG dX7_settles_148 (fun _ _ => (by omega)) ?_
        refine J.iald hG rfl (by omega) (by omega) dX7_settles_149 ?_
        refine J.iast hG rfl (by omega) (by omega) dX7_settles_150 ?_
        refine J.aload_n hG dX7_settles_151 rfl rfl ?_
        refine J.getR hG ciX7 rfl 12 12 rfl (Nat.le_of_ble_eq_true rfl) rfl fl_X7_22 dX7_settles_152 ?_
        refine J.iload_n hG dX7_settles_155 rfl rfl ?_
        refine J.aload_n hG dX7_settles_156 rfl rfl ?_
        refine J.getR hG ciX7 rfl 12 12 rfl (Nat.le_of_ble_eq_true rfl) rfl fl_X7_22 dX7_settles_157 ?_
        refine J.bipush hG dX7_settles_160 (by decide) (by decide) ?_
        refine J.iload_n hG dX7_settles_162 rfl rfl ?_
        refine J.iadd hG dX7_settles_163 (fun _ _ => (by omega)) ?_
        refine J.iald hG rfl (by omega) (by omega) dX7_settles_164 ?_
        refine J.iast hG rfl (by omega) (by omega) dX7_settles_165 ?_
        refine J.aload_n hG dX7_settles_166 rfl rfl ?_
        refine J.getR hG ciX7 rfl 22 22 rfl (Nat.le_of_ble_eq_true rfl) rfl fl_X7_28 dX7_settles_167 ?_
        refine J.bipush hG dX7_settles_170 (by decide) (by decide) ?_
        refine J.iload_n hG dX7_settles_172 rfl rfl ?_
        refine J.iadd hG dX7_settles_173 (fun _ _ => (by omega)) ?_
        refine J.aload_n hG dX7_settles_174 rfl rfl ?_
        refine J.getR hG ciX7 rfl 11 11 rfl (Nat.le_of_ble_eq_true rfl) rfl fl_X7_19 dX7_settles_175 ?_
        refine J.iload_n hG dX7_settles_178 rfl rfl ?_
        refine J.iald hG rfl (by omega) (by omega) dX7_settles_179 ?_
        refine J.iast hG rfl (by omega) (by omega) dX7_settles_180 ?_
        refine J.iinc hG dX7_settles_181 (Nat.le_of_ble_eq_true rfl) rfl (fun _ => (by omega)) ?_
        refine J.goto hG 130 dX7_settles_184 rfl ?_
        refine ih (i + 1) _ (by omega) (by omega) (fun c a1 a2 a3 a4 a5 a6 => by (repeat rw [up_cell _ _ _ (by omega)]); exact hF c a1 a2 a3 a4 a5 a6) (fun j c1 c2 => by simp [up]; exact hA j c1 c2) (fun j c1 c2 => ?_) (fun j c1 c2 => ?_) (fun j c1 => ?_)
        · have := hB j c1 c2
          refine ⟨by simp [up]; exact this.1, by simp [up]; exact this.2.1, ?_⟩
          simp [up, show ¬ j = 8 + i by omega]
          exact this.2.2
        · have h16 := hD (16 + i) (by omega)
          by_cases hj : j = i
          · subst hj
            simp [up]
            exact ⟨h16.1, h16.2, h16.1⟩
          · have := hC j c1 (by omega)
            simp [up, hj, show ¬ 8 + j = 8 + i by omega]
            exact this
        · have := hD j c1
          simp [up, show ¬ j = i by omega]
          exact this
    have lpB : ∀ (k : Nat) (i : Int) (ν : Mem), 0 ≤ i → i + k = 8 → (∀ c : Nat, c ≠ 2 → c ≠ 3 → c ≠ 4 → c ≠ 5 → c ≠ 6 → c ≠ 7 → ν c = ν0 c) → (∀ j : Int, 0 ≤ j → j < 4 → ν 2 j = μ 2 (4 + j)) → (∀ j : Int, 0 ≤ j → j < i → ν 3 j = μ 3 (8 + j) ∧ ν 6 j = μ 6 (8 + j) ∧ ν 7 j = μ 3 (8 + j)) → (∀ j : Int, 8 ≤ j → ν 3 j = μ 3 j ∧ ν 6 j = μ 6 j) → (ν 4 = μ 4 ∧ ν 5 = μ 5) → J TM X 2 74 [some (aR 0), some (aI i)] [] ν := by
      intro k
      induction k with
      | zero =>
        intro i ν i0 i1 hF hA hB hD hE
        refine J.iload_n hG dX7_settles_74 rfl rfl ?_
        refine J.bipush hG dX7_settles_75 (by decide) (by decide) ?_
        refine J.icmp_ge hG 128 dX7_settles_77 rfl (fun h77 => ?_) (fun h77 => absurd h77 (by omega))
        refine J.iconst hG dX7_settles_128 (by decide) ?_
        refine J.istore_n hG dX7_settles_129 rfl (Nat.le_of_ble_eq_true rfl) ?_
        exact lpC 16 0 ν (Int.le_refl _) (by decide) hF hA (fun j a b => hB j a (by omega)) (fun j a b => absurd b (by omega)) (fun j _ => ⟨by rw [hE.1], by rw [hE.2]⟩)
      | succ k ih =>
        intro i ν i0 i1 hF hA hB hD hE
        refine J.iload_n hG dX7_settles_74 rfl rfl ?_
        refine J.bipush hG dX7_settles_75 (by decide) (by decide) ?_
        refine J.icmp_ge hG 128 dX7_settles_77 rfl (fun h77 => absurd h77 (by omega)) (fun h77 => ?_)
        refine J.aload_n hG dX7_settles_80 rfl rfl ?_
        refine J.getR hG ciX7 rfl 10 10 rfl (Nat.le_of_ble_eq_true rfl) rfl fl_X7_16 dX7_settles_81 ?_
        refine J.iload_n hG dX7_settles_84 rfl rfl ?_
        refine J.aload_n hG dX7_settles_85 rfl rfl ?_
        refine J.getR hG ciX7 rfl 10 10 rfl (Nat.le_of_ble_eq_true rfl) rfl fl_X7_16 dX7_settles_86 ?_
        refine J.bipush hG dX7_settles_89 (by decide) (by decide) ?_
        refine J.iload_n hG dX7_settles_91 rfl rfl ?_
        refine J.iadd hG dX7_settles_92 (fun _ _ => (by omega)) ?_
        refine J.iald hG rfl (by omega) (by omega) dX7_settles_93 ?_
        refine J.iast hG rfl (by omega) (by omega) dX7_settles_94 ?_
        refine J.aload_n hG dX7_settles_95 rfl rfl ?_
        refine J.getR hG ciX7 rfl 13 13 rfl (Nat.le_of_ble_eq_true rfl) rfl fl_X7_25 dX7_settles_96 ?_
        refine J.iload_n hG dX7_settles_99 rfl rfl ?_
        refine J.aload_n hG dX7_settles_100 rfl rfl ?_
        refine J.getR hG ciX7 rfl 13 13 rfl (Nat.le_of_ble_eq_true rfl) rfl fl_X7_25 dX7_settles_101 ?_
        refine J.bipush hG dX7_settles_104 (by decide) (by decide) ?_
        refine J.iload_n hG dX7_settles_106 rfl rfl ?_
        refine J.iadd hG dX7_settles_107 (fun _ _ => (by omega)) ?_
        refine J.iald hG rfl (by omega) (by omega) dX7_settles_108 ?_
        refine J.iast hG rfl (by omega) (by omega) dX7_settles_109 ?_
        refine J.aload_n hG dX7_settles_110 rfl rfl ?_
        refine J.getR hG ciX7 rfl 22 22 rfl (Nat.le_of_ble_eq_true rfl) rfl fl_X7_28 dX7_settles_111 ?_
        refine J.iload_n hG dX7_settles_114 rfl rfl ?_
        refine J.aload_n hG dX7_settles_115 rfl rfl ?_
        refine J.getR hG ciX7 rfl 10 10 rfl (Nat.le_of_ble_eq_true rfl) rfl fl_X7_16 dX7_settles_116 ?_
        refine J.iload_n hG dX7_settles_119 rfl rfl ?_
        refine J.iald hG rfl (by omega) (by omega) dX7_settles_120 ?_
        refine J.iast hG rfl (by omega) (by omega) dX7_settles_121 ?_
        refine J.iinc hG dX7_settles_122 (Nat.le_of_ble_eq_true rfl) rfl (fun _ => (by omega)) ?_
        refine J.goto hG 74 dX7_settles_125 rfl ?_
        refine ih (i + 1) _ (by omega) (by omega) (fun c a1 a2 a3 a4 a5 a6 => by (repeat rw [up_cell _ _ _ (by omega)]); exact hF c a1 a2 a3 a4 a5 a6) (fun j c1 c2 => by simp [up]; exact hA j c1 c2) (fun j c1 c2 => ?_) (fun j c1 => ?_) ?_
        · have h8 := hD (8 + i) (by omega)
          by_cases hj : j = i
          · subst hj
            simp [up]
            exact ⟨h8.1, h8.2, h8.1⟩
          · have := hB j c1 (by omega)
            simp [up, hj]
            exact this
        · have := hD j c1
          simp [up, show ¬ j = i by omega]
          exact this
        · rw [up_cell _ _ _ (show (4 : Nat) ≠ 7 by decide), up_cell _ _ _ (show (4 : Nat) ≠ 6 by decide), up_cell _ _ _ (show (4 : Nat) ≠ 3 by decide), up_cell _ _ _ (show (5 : Nat) ≠ 7 by decide), up_cell _ _ _ (show (5 : Nat) ≠ 6 by decide), up_cell _ _ _ (show (5 : Nat) ≠ 3 by decide)]
          exact hE
    have lpA : ∀ (k : Nat) (i : Int) (ν : Mem), 0 ≤ i → i + k = 4 → (∀ c : Nat, c ≠ 2 → c ≠ 3 → c ≠ 4 → c ≠ 5 → c ≠ 6 → c ≠ 7 → ν c = ν0 c) → (∀ j : Int, 0 ≤ j → j < i → ν 2 j = μ 2 (4 + j)) → (∀ j : Int, 4 ≤ j → ν 2 j = μ 2 j) → (ν 3 = μ 3 ∧ ν 4 = μ 4 ∧ ν 5 = μ 5 ∧ ν 6 = μ 6) → J TM X 2 47 [some (aR 0), some (aI i)] [] ν := by
      intro k
      induction k with
      | zero =>
        intro i ν i0 i1 hF hA hD hE
        refine J.iload_n hG dX7_settles_47 rfl rfl ?_
        refine J.iconst hG dX7_settles_48 (by decide) ?_
        refine J.icmp_ge hG 72 dX7_settles_49 rfl (fun h49 => ?_) (fun h49 => absurd h49 (by omega))
        refine J.iconst hG dX7_settles_72 (by decide) ?_
        refine J.istore_n hG dX7_settles_73 rfl (Nat.le_of_ble_eq_true rfl) ?_
        exact lpB 8 0 ν (Int.le_refl _) (by decide) hF (fun j a b => hA j a (by omega)) (fun j a b => absurd b (by omega)) (fun j _ => ⟨by rw [hE.1], by rw [hE.2.2.2]⟩) ⟨hE.2.1, hE.2.2.1⟩
      | succ k ih =>
        intro i ν i0 i1 hF hA hD hE
        refine J.iload_n hG dX7_settles_47 rfl rfl ?_
        refine J.iconst hG dX7_settles_48 (by decide) ?_
        refine J.icmp_ge hG 72 dX7_settles_49 rfl (fun h49 => absurd h49 (by omega)) (fun h49 => ?_)
        refine J.aload_n hG dX7_settles_52 rfl rfl ?_
        refine J.getR hG ciX7 rfl 9 9 rfl (Nat.le_of_ble_eq_true rfl) rfl fl_X7_13 dX7_settles_53 ?_
        refine J.iload_n hG dX7_settles_56 rfl rfl ?_
        refine J.aload_n hG dX7_settles_57 rfl rfl ?_
        refine J.getR hG ciX7 rfl 9 9 rfl (Nat.le_of_ble_eq_true rfl) rfl fl_X7_13 dX7_settles_58 ?_
        refine J.iconst hG dX7_settles_61 (by decide) ?_
        refine J.iload_n hG dX7_settles_62 rfl rfl ?_
        refine J.iadd hG dX7_settles_63 (fun _ _ => (by omega)) ?_
        refine J.iald hG rfl (by omega) (by omega) dX7_settles_64 ?_
        refine J.iast hG rfl (by omega) (by omega) dX7_settles_65 ?_
        refine J.iinc hG dX7_settles_66 (Nat.le_of_ble_eq_true rfl) rfl (fun _ => (by omega)) ?_
        refine J.goto hG 47 dX7_settles_69 rfl ?_
        refine ih (i + 1) _ (by omega) (by omega) (fun c a1 a2 a3 a4 a5 a6 => by rw [up_cell _ _ _ a1]; exact hF c a1 a2 a3 a4 a5 a6) (fun j c1 c2 => ?_) (fun j c1 => ?_) ?_
        · by_cases hj : j = i
          · rw [hj, up_self]
            exact hD (4 + i) (by omega)
          · rw [up_ne _ (fun w => hj w.2)]
            exact hA j c1 (by omega)
        · rw [up_ne _ (fun w => by omega)]
          exact hD j c1
        · rw [up_cell _ _ _ (show (3 : Nat) ≠ 2 by decide), up_cell _ _ _ (show (4 : Nat) ≠ 2 by decide), up_cell _ _ _ (show (5 : Nat) ≠ 2 by decide), up_cell _ _ _ (show (6 : Nat) ≠ 2 by decide)]
          exact hE
    exact lpA 4 0 ν0 (Int.le_refl _) (by decide) (fun _ _ _ _ _ _ _ => rfl) (fun j a b => absurd b (by omega)) (fun j _ => by rw [k0 2 (by decide)]) ⟨k0 3 (by decide), k0 4 (by decide), k0 5 (by decide), k0 6 (by decide)⟩
  refine J.aload_n hG dX7_settles_0 rfl rfl ?_
  refine J.aload_n hG dX7_settles_1 rfl rfl ?_
  refine J.getI hG ciX7 rfl 18 18 rfl (Nat.le_of_ble_eq_true rfl) rfl fl_X7_115 dX7_settles_2 ?_
  refine J.putI hG ciX7 rfl 14 14 rfl (Nat.le_of_ble_eq_true rfl) rfl fl_X7_141 rfl rfl dX7_settles_5 ?_
  refine J.aload_n hG dX7_settles_8 rfl rfl ?_
  refine J.aload_n hG dX7_settles_9 rfl rfl ?_
  refine J.getI hG ciX7 rfl 19 19 rfl (Nat.le_of_ble_eq_true rfl) rfl fl_X7_118 dX7_settles_10 ?_
  refine J.putI hG ciX7 rfl 15 15 rfl (Nat.le_of_ble_eq_true rfl) rfl fl_X7_144 rfl rfl dX7_settles_13 ?_
  refine J.aload_n hG dX7_settles_16 rfl rfl ?_
  refine J.aload_n hG dX7_settles_17 rfl rfl ?_
  refine J.getI hG ciX7 rfl 20 20 rfl (Nat.le_of_ble_eq_true rfl) rfl fl_X7_121 dX7_settles_18 ?_
  refine J.putI hG ciX7 rfl 16 16 rfl (Nat.le_of_ble_eq_true rfl) rfl fl_X7_147 rfl rfl dX7_settles_21 ?_
  refine J.aload_n hG dX7_settles_24 rfl rfl ?_
  refine J.aload_n hG dX7_settles_25 rfl rfl ?_
  refine J.getI hG ciX7 rfl 21 21 rfl (Nat.le_of_ble_eq_true rfl) rfl fl_X7_124 dX7_settles_26 ?_
  refine J.bipush hG dX7_settles_29 (by decide) (by decide) ?_
  refine J.icmp_ne hG 38 dX7_settles_31 rfl (fun h31 => ?_) (fun h31 => ?_)
  · refine J.aload_n hG dX7_settles_38 rfl rfl ?_
    refine J.getI hG ciX7 rfl 21 21 rfl (Nat.le_of_ble_eq_true rfl) rfl fl_X7_124 dX7_settles_39 ?_
    refine J.putI hG ciX7 rfl 17 17 rfl (Nat.le_of_ble_eq_true rfl) rfl fl_X7_71 rfl rfl dX7_settles_42 ?_
    refine J.iconst hG dX7_settles_45 (by decide) ?_
    refine J.istore_n hG dX7_settles_46 rfl (Nat.le_of_ble_eq_true rfl) ?_
    have h31b : ¬ μ 0 21 = -9 := by simpa [up] using h31
    exact go _ (fun c hc => by (repeat rw [up_cell _ _ _ (by omega)])) (by simp [up]) (by simp [up]) (by simp [up]) (by simp [up, h31b]) (fun j a b c d => by simp [up, a, b, c, d])
  · refine J.iconst hG dX7_settles_34 (by decide) ?_
    refine J.goto hG 42 dX7_settles_35 rfl ?_
    refine J.putI hG ciX7 rfl 17 17 rfl (Nat.le_of_ble_eq_true rfl) rfl fl_X7_71 rfl rfl dX7_settles_42 ?_
    refine J.iconst hG dX7_settles_45 (by decide) ?_
    refine J.istore_n hG dX7_settles_46 rfl (Nat.le_of_ble_eq_true rfl) ?_
    have h31b : μ 0 21 = -9 := by simpa [up] using h31
    exact go _ (fun c hc => by (repeat rw [up_cell _ _ _ (by omega)])) (by simp [up]) (by simp [up]) (by simp [up]) (by simp [up, h31b]) (fun j a b c d => by simp [up, a, b, c, d])


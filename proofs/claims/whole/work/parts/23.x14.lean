def empS (σ : Mem) : Mem := up (up (up (up σ 2 0 0) 2 1 0) 2 2 0) 2 3 2
def startS (σ : Mem) : Mem := up (up (up (up (empS σ) 1 6 0) 1 7 0) 1 8 (-1)) 1 9 0
theorem numC_bd (f : Int → Int) (n p : Int) (hn : 0 ≤ p) (hd : dig f n p = 1) : -1 ≤ numC f n p ∧ numC f n p ≤ 99 := by
  unfold dig at hd
  split at hd
  · unfold numC
    split
    · omega
    · split
      · omega
      · rename_i a b c
        have h : dig f n (p + 1) = 1 := by rcases dig01 f n (p + 1) with q | q; exact absurd q b; exact q
        unfold dig at h
        split at h <;> omega
  · omega
theorem cdT_bd (f : Int → Int) (n p : Int) (hp : 0 ≤ p) : -255 ≤ cdT f n p ∧ cdT f n p ≤ 99 := by
  unfold cdT
  split
  · rename_i h
    have := numC_bd f n p hp h
    omega
  · split <;> omega
theorem PI_start {ν : Mem} {m : Nat} (hT : XTx ν) (h : Toks ν m) : PI m (startS ν) := by
  have hT1 := hT.1
  obtain ⟨t1, t2, t3, t4, t5⟩ := h
  have e11 : startS ν 11 = ν 11 := by unfold startS empS; rw [up_cell _ _ _ (by decide), up_cell _ _ _ (by decide), up_cell _ _ _ (by decide), up_cell _ _ _ (by decide), up_cell _ _ _ (by decide), up_cell _ _ _ (by decide), up_cell _ _ _ (by decide), up_cell _ _ _ (by decide)]
  have e12 : startS ν 12 = ν 12 := by unfold startS empS; rw [up_cell _ _ _ (by decide), up_cell _ _ _ (by decide), up_cell _ _ _ (by decide), up_cell _ _ _ (by decide), up_cell _ _ _ (by decide), up_cell _ _ _ (by decide), up_cell _ _ _ (by decide), up_cell _ _ _ (by decide)]
  have e20 : startS ν 2 0 = 0 := by simp [startS, empS, up]
  have e21 : startS ν 2 1 = 0 := by simp [startS, empS, up]
  have e22 : startS ν 2 2 = 0 := by simp [startS, empS, up]
  have e16 : startS ν 1 6 = 0 := by simp [startS, empS, up]
  have e19 : startS ν 1 9 = 0 := by simp [startS, empS, up]
  unfold PI
  rw [e11, e12, e20, e21, e22, e16, e19]
  refine ⟨⟨by omega, t3, fun j a b => ?_⟩, by omega, by omega, by omega, by omega, fun s a b => absurd b (by omega), Or.inl rfl⟩
  by_cases hj : j = m
  · rw [hj, t3, t4]; omega
  · have := t1 j.toNat (by omega)
    rw [Int.toNat_of_nonneg a] at this
    have hc := cdT_bd (ν 10) (ν 1 0) (Stk (ν 10) (ν 1 0) j.toNat) this.1
    rw [this.2.2.1, this.2.2.2]
    omega

set_option maxRecDepth 100000 in
set_option maxHeartbeats 4000000 in
theorem X1_empties (μ : Mem)  : CT TX md_X1_empties [aR 2] μ (fun rv μ1 => rv = none ∧ μ1 = empS μ) := by
  refine CT.of (Nat.le_of_ble_eq_true rfl) (by decide) rfl (Nat.le_of_ble_eq_true rfl) (fun X hG hX => ?_)
  have hG : G TX X RX1 cX1_empties 1 0 0 none := hG
  show J TX X 1 0 [some (aR 2)] [] μ
  refine J.aload_n hG dX1_empties_0 rfl rfl ?_
  refine J.iconst hG dX1_empties_1 (by decide) ?_
  refine J.putI hG ciX1 rfl 0 0 rfl (Nat.le_of_ble_eq_true rfl) rfl fl_X1_9 rfl rfl dX1_empties_2 ?_
  refine J.aload_n hG dX1_empties_5 rfl rfl ?_
  refine J.iconst hG dX1_empties_6 (by decide) ?_
  refine J.putI hG ciX1 rfl 1 1 rfl (Nat.le_of_ble_eq_true rfl) rfl fl_X1_15 rfl rfl dX1_empties_7 ?_
  refine J.aload_n hG dX1_empties_10 rfl rfl ?_
  refine J.iconst hG dX1_empties_11 (by decide) ?_
  refine J.putI hG ciX1 rfl 2 2 rfl (Nat.le_of_ble_eq_true rfl) rfl fl_X1_18 rfl rfl dX1_empties_12 ?_
  refine J.aload_n hG dX1_empties_15 rfl rfl ?_
  refine J.iconst hG dX1_empties_16 (by decide) ?_
  refine J.putI hG ciX1 rfl 3 3 rfl (Nat.le_of_ble_eq_true rfl) rfl fl_X1_21 rfl rfl dX1_empties_17 ?_
  refine J.vret hG dX1_empties_20 ?_
  rw [hX]; dsimp only
  exact ⟨rfl, rfl⟩

set_option maxRecDepth 100000 in
set_option maxHeartbeats 4000000 in
theorem X5_reads (μ : Mem) (hT : XTx μ) : CT TX md_X5_reads [aR 1] μ (fun rv μ1 => ∃ (ν : Mem) (m : Nat), (∀ c : Nat, c ≠ 11 → c ≠ 12 → ν c = μ c) ∧ Toks ν m ∧ ((∃ f, 0 ≤ f ∧ loopS 200 (startS ν) = .inl f ∧ rv = some (aI (-10 - f)) ∧ BadF ν μ1) ∨ (∃ σ, loopS 200 (startS ν) = .inr σ ∧ rv = some (aI (σ 1 7)) ∧ μ1 = σ ∧ 0 ≤ σ 1 7 ∧ (∀ c : Nat, (c = 0 ∨ c = 6 ∨ 9 < c) → σ c = ν c) ∧ σ 1 0 = ν 1 0))) := by
  refine CT.of (Nat.le_of_ble_eq_true rfl) (by decide) rfl (Nat.le_of_ble_eq_true rfl) (fun X hG hX => ?_)
  have hG : G TX X RX5 cX5_reads 2 4 88 (some .int) := hG
  show J TX X 2 0 [some (aR 1), none] [] μ
  refine J.aload_n hG dX5_reads_0 rfl rfl ?_
  refine J.callV hG (X5_splitsIntoTokens _ hT) ok_X5_splitsIntoTokens ml_X5_52 rfl rfl rfl rfl (Nat.le_of_ble_eq_true rfl) ⟨Nat.le_of_ble_eq_true rfl, Nat.le_of_ble_eq_true rfl⟩ dX5_reads_1 rfl (fun r1 μ2 hp1 => ?_)
  obtain ⟨rfl, hs2, ⟨m, hs3⟩⟩ := hp1
  have hTn : XTx μ2 := by unfold XTx; rw [hs2 1 (by decide) (by decide), hs2 10 (by decide) (by decide)]; exact hT
  refine J.aload_n hG dX5_reads_4 rfl rfl ?_
  refine J.getR hG ciX5 rfl 1 1 rfl (Nat.le_of_ble_eq_true rfl) rfl fl_X5_18 dX5_reads_5 ?_
  refine J.callV hG (X1_empties _) ok_X1_empties ml_X5_55 rfl rfl rfl rfl (Nat.le_of_ble_eq_true rfl) ⟨Nat.le_of_ble_eq_true rfl, Nat.le_of_ble_eq_true rfl⟩ dX5_reads_8 rfl (fun r1 μ1 hp1 => ?_)
  obtain ⟨rfl, rfl⟩ := hp1
  refine J.aload_n hG dX5_reads_11 rfl rfl ?_
  refine J.iconst hG dX5_reads_12 (by decide) ?_
  refine J.putI hG ciX5 rfl 6 6 rfl (Nat.le_of_ble_eq_true rfl) rfl fl_X5_39 rfl rfl dX5_reads_13 ?_
  refine J.aload_n hG dX5_reads_16 rfl rfl ?_
  refine J.iconst hG dX5_reads_17 (by decide) ?_
  refine J.putI hG ciX5 rfl 7 7 rfl (Nat.le_of_ble_eq_true rfl) rfl fl_X5_42 rfl rfl dX5_reads_18 ?_
  refine J.aload_n hG dX5_reads_21 rfl rfl ?_
  refine J.iconst hG dX5_reads_22 (by decide) ?_
  refine J.putI hG ciX5 rfl 8 8 rfl (Nat.le_of_ble_eq_true rfl) rfl fl_X5_45 rfl rfl dX5_reads_23 ?_
  refine J.aload_n hG dX5_reads_26 rfl rfl ?_
  refine J.iconst hG dX5_reads_27 (by decide) ?_
  refine J.putZ hG ciX5 rfl 9 9 rfl (Nat.le_of_ble_eq_true rfl) (by first | exact Or.inl rfl | exact Or.inr rfl) rfl fl_X5_48 rfl rfl dX5_reads_28 ?_
  refine J.iconst hG dX5_reads_31 (by decide) ?_
  refine J.istore_n hG dX5_reads_32 rfl (Nat.le_of_ble_eq_true rfl) ?_
  obtain ⟨R, hR⟩ : ∃ R, R = loopS 200 (startS μ2) := ⟨_, rfl⟩
  have finb : ∀ (i f : Int) (ν : Mem), ν 1 8 = f → BadF μ2 ν → R = .inl f → J TX X 2 33 [some (aR 1), some (aI i)] [] ν := by
    intro i f ν hf hb hr
    have hb6 := hb.2.2.1
    have hb8 := hb.2.2.2
    refine J.iload_n hG dX5_reads_33 rfl rfl ?_
    refine J.sipush hG dX5_reads_34 (by decide) (by decide) ?_
    refine J.icmp_ge hG 72 dX5_reads_37 rfl (fun h37 => ?_) (fun h37 => ?_)
    · refine J.aload_n hG dX5_reads_72 rfl rfl ?_
      refine J.getI hG ciX5 rfl 8 8 rfl (Nat.le_of_ble_eq_true rfl) rfl fl_X5_45 dX5_reads_73 ?_
      refine J.iconst hG dX5_reads_76 (by decide) ?_
      refine J.icmp_ne hG 87 dX5_reads_77 rfl (fun h77 => ?_) (fun h77 => absurd h77 (by omega))
      refine J.bipush hG dX5_reads_87 (by decide) (by decide) ?_
      refine J.aload_n hG dX5_reads_89 rfl rfl ?_
      refine J.getI hG ciX5 rfl 8 8 rfl (Nat.le_of_ble_eq_true rfl) rfl fl_X5_45 dX5_reads_90 ?_
      refine J.isub hG dX5_reads_93 (fun _ _ => (by omega)) ?_
      refine J.iret hG dX5_reads_94 ?_
      rw [hX]; dsimp only
      exact ⟨μ2, m, hs2, hs3, Or.inl ⟨f, by omega, by rw [← hR]; exact hr, by rw [hf], hb⟩⟩
    · refine J.aload_n hG dX5_reads_40 rfl rfl ?_
      refine J.getR hG ciX5 rfl 4 4 rfl (Nat.le_of_ble_eq_true rfl) rfl fl_X5_33 dX5_reads_41 ?_
      refine J.aload_n hG dX5_reads_44 rfl rfl ?_
      refine J.getI hG ciX5 rfl 6 6 rfl (Nat.le_of_ble_eq_true rfl) rfl fl_X5_39 dX5_reads_45 ?_
      refine J.iald hG rfl (by omega) (by omega) dX5_reads_48 ?_
      refine J.bipush hG dX5_reads_49 (by decide) (by decide) ?_
      refine J.icmp_eq hG 72 dX5_reads_51 rfl (fun h51 => ?_) (fun h51 => ?_)
      · refine J.aload_n hG dX5_reads_72 rfl rfl ?_
        refine J.getI hG ciX5 rfl 8 8 rfl (Nat.le_of_ble_eq_true rfl) rfl fl_X5_45 dX5_reads_73 ?_
        refine J.iconst hG dX5_reads_76 (by decide) ?_
        refine J.icmp_ne hG 87 dX5_reads_77 rfl (fun h77 => ?_) (fun h77 => absurd h77 (by omega))
        refine J.bipush hG dX5_reads_87 (by decide) (by decide) ?_
        refine J.aload_n hG dX5_reads_89 rfl rfl ?_
        refine J.getI hG ciX5 rfl 8 8 rfl (Nat.le_of_ble_eq_true rfl) rfl fl_X5_45 dX5_reads_90 ?_
        refine J.isub hG dX5_reads_93 (fun _ _ => (by omega)) ?_
        refine J.iret hG dX5_reads_94 ?_
        rw [hX]; dsimp only
        exact ⟨μ2, m, hs2, hs3, Or.inl ⟨f, by omega, by rw [← hR]; exact hr, by rw [hf], hb⟩⟩
      · refine J.aload_n hG dX5_reads_54 rfl rfl ?_
        refine J.getI hG ciX5 rfl 8 8 rfl (Nat.le_of_ble_eq_true rfl) rfl fl_X5_45 dX5_reads_55 ?_
        refine J.iconst hG dX5_reads_58 (by decide) ?_
        refine J.icmp_ne hG 72 dX5_reads_59 rfl (fun h59 => ?_) (fun h59 => absurd h59 (by omega))
        refine J.aload_n hG dX5_reads_72 rfl rfl ?_
        refine J.getI hG ciX5 rfl 8 8 rfl (Nat.le_of_ble_eq_true rfl) rfl fl_X5_45 dX5_reads_73 ?_
        refine J.iconst hG dX5_reads_76 (by decide) ?_
        refine J.icmp_ne hG 87 dX5_reads_77 rfl (fun h77 => ?_) (fun h77 => absurd h77 (by omega))
        refine J.bipush hG dX5_reads_87 (by decide) (by decide) ?_
        refine J.aload_n hG dX5_reads_89 rfl rfl ?_
        refine J.getI hG ciX5 rfl 8 8 rfl (Nat.le_of_ble_eq_true rfl) rfl fl_X5_45 dX5_reads_90 ?_
        refine J.isub hG dX5_reads_93 (fun _ _ => (by omega)) ?_
        refine J.iret hG dX5_reads_94 ?_
        rw [hX]; dsimp only
        exact ⟨μ2, m, hs2, hs3, Or.inl ⟨f, by omega, by rw [← hR]; exact hr, by rw [hf], hb⟩⟩
  have lp : ∀ (k : Nat) (i : Int) (ν : Mem), i + k = 200 → 0 ≤ i → PI m ν → ν 1 8 = -1 → (0 ≤ ν 1 7 ∧ ν 1 7 ≤ i) → (∀ c : Nat, (c = 0 ∨ c = 6 ∨ 9 < c) → ν c = μ2 c) → ν 1 0 = μ2 1 0 → loopS k ν = R → J TX X 2 33 [some (aR 1), some (aI i)] [] ν := by
    intro k
    induction k with
    | zero =>
      intro i ν i0 i1 hI h8 h7 hF h0 hr
      rw [loopS] at hr
      refine J.iload_n hG dX5_reads_33 rfl rfl ?_
      refine J.sipush hG dX5_reads_34 (by decide) (by decide) ?_
      refine J.icmp_ge hG 72 dX5_reads_37 rfl (fun h37 => ?_) (fun h37 => absurd h37 (by omega))
      refine J.aload_n hG dX5_reads_72 rfl rfl ?_
      refine J.getI hG ciX5 rfl 8 8 rfl (Nat.le_of_ble_eq_true rfl) rfl fl_X5_45 dX5_reads_73 ?_
      refine J.iconst hG dX5_reads_76 (by decide) ?_
      refine J.icmp_ne hG 87 dX5_reads_77 rfl (fun h77 => absurd h77 (by omega)) (fun h77 => ?_)
      refine J.aload_n hG dX5_reads_80 rfl rfl ?_
      refine J.getI hG ciX5 rfl 7 7 rfl (Nat.le_of_ble_eq_true rfl) rfl fl_X5_42 dX5_reads_81 ?_
      refine J.goto hG 94 dX5_reads_84 rfl ?_
      refine J.iret hG dX5_reads_94 ?_
      rw [hX]; dsimp only
      exact ⟨μ2, m, hs2, hs3, Or.inr ⟨ν, by rw [← hR]; exact hr.symm, rfl, rfl, h7.1, hF, h0⟩⟩
    | succ k ih =>
      intro i ν i0 i1 hI h8 h7 hF h0 hr
      have gi := hI.2.1
      have gm := hI.1.1
      rw [loopS] at hr
      refine J.iload_n hG dX5_reads_33 rfl rfl ?_
      refine J.sipush hG dX5_reads_34 (by decide) (by decide) ?_
      refine J.icmp_ge hG 72 dX5_reads_37 rfl (fun h37 => absurd h37 (by omega)) (fun h37 => ?_)
      refine J.aload_n hG dX5_reads_40 rfl rfl ?_
      refine J.getR hG ciX5 rfl 4 4 rfl (Nat.le_of_ble_eq_true rfl) rfl fl_X5_33 dX5_reads_41 ?_
      refine J.aload_n hG dX5_reads_44 rfl rfl ?_
      refine J.getI hG ciX5 rfl 6 6 rfl (Nat.le_of_ble_eq_true rfl) rfl fl_X5_39 dX5_reads_45 ?_
      refine J.iald hG rfl (by omega) (by omega) dX5_reads_48 ?_
      refine J.bipush hG dX5_reads_49 (by decide) (by decide) ?_
      refine J.icmp_eq hG 72 dX5_reads_51 rfl (fun h51 => ?_) (fun h51 => ?_)
      · refine J.aload_n hG dX5_reads_72 rfl rfl ?_
        refine J.getI hG ciX5 rfl 8 8 rfl (Nat.le_of_ble_eq_true rfl) rfl fl_X5_45 dX5_reads_73 ?_
        refine J.iconst hG dX5_reads_76 (by decide) ?_
        refine J.icmp_ne hG 87 dX5_reads_77 rfl (fun h77 => absurd h77 (by omega)) (fun h77 => ?_)
        refine J.aload_n hG dX5_reads_80 rfl rfl ?_
        refine J.getI hG ciX5 rfl 7 7 rfl (Nat.le_of_ble_eq_true rfl) rfl fl_X5_42 dX5_reads_81 ?_
        refine J.goto hG 94 dX5_reads_84 rfl ?_
        refine J.iret hG dX5_reads_94 ?_
        rw [hX]; dsimp only
        rw [if_pos h51] at hr
        exact ⟨μ2, m, hs2, hs3, Or.inr ⟨ν, by rw [← hR]; exact hr.symm, rfl, rfl, h7.1, hF, h0⟩⟩
      · refine J.aload_n hG dX5_reads_54 rfl rfl ?_
        refine J.getI hG ciX5 rfl 8 8 rfl (Nat.le_of_ble_eq_true rfl) rfl fl_X5_45 dX5_reads_55 ?_
        refine J.iconst hG dX5_reads_58 (by decide) ?_
        refine J.icmp_ne hG 72 dX5_reads_59 rfl (fun h59 => absurd h59 (by omega)) (fun h59 => ?_)
        refine J.aload_n hG dX5_reads_62 rfl rfl ?_
        refine J.callV hG (X5_readsItem _ m hI h8 (by omega)) ok_X5_readsItem ml_X5_58 rfl rfl rfl rfl (Nat.le_of_ble_eq_true rfl) ⟨Nat.le_of_ble_eq_true rfl, Nat.le_of_ble_eq_true rfl⟩ dX5_reads_63 rfl (fun r1 ν1 hp1 => ?_)
        rcases hp1 with ⟨rfl, ⟨q1, q2, q3, q4, q5, q6⟩ | ⟨q1, q2⟩⟩
        · rw [if_neg h51, q1] at hr
          refine J.iinc hG dX5_reads_66 (Nat.le_of_ble_eq_true rfl) rfl (fun _ => (by omega)) ?_
          refine J.goto hG 33 dX5_reads_69 rfl ?_
          exact ih (i + 1) _ (by omega) (by omega) q2 q3 (by omega) (fun c hc => by rw [q5 c hc, hF c hc]) (by rw [q6, h0]) hr
        · rw [if_neg h51, q1] at hr
          refine J.iinc hG dX5_reads_66 (Nat.le_of_ble_eq_true rfl) rfl (fun _ => (by omega)) ?_
          refine J.goto hG 33 dX5_reads_69 rfl ?_
          exact finb (i + 1) _ _ rfl ⟨fun c hc => by rw [q2.1 c hc, hF c hc], by rw [q2.2.1, h0], q2.2.2⟩ hr.symm
  exact lp 200 0 _ (by decide) (Int.le_refl _) (PI_start hTn hs3) (by simp [up]) (by simp [up]) (fun c hc => by rw [up_cell _ _ _ (by omega), up_cell _ _ _ (by omega), up_cell _ _ _ (by omega), up_cell _ _ _ (by omega)]; unfold empS; rw [up_cell _ _ _ (by omega), up_cell _ _ _ (by omega), up_cell _ _ _ (by omega), up_cell _ _ _ (by omega)]) (by simp [up, empS]) (by rw [hR]; rfl)

def lbec (μ : Mem) : Mem :=
  let m1 := up μ 13 0 (μ 2 0)
  let m2 := up m1 13 1 (m1 2 1)
  let m3 := up m2 13 2 (m2 2 2)
  let m4 := up m3 13 3 (m3 2 3)
  cpy (cpy (cpy m4 3 14 4) 4 15 16) 5 16 8
def landM (σ : Mem) : Mem := up (up (up (up (up (up (bec (lbec σ) 6 17) 1 0 0) 21 0 0) 65 0 0) 71 0 0) 64 0 0) 64 (0 + 1) 0
set_option maxRecDepth 100000 in
set_option maxHeartbeats 4000000 in
theorem X1_becomes (μ : Mem)  : CT TX md_X1_becomes [aR 13, aR 2] μ (fun rv μ1 => rv = none ∧ μ1 = lbec μ) := by
  refine CT.of (Nat.le_of_ble_eq_true rfl) (by decide) rfl (Nat.le_of_ble_eq_true rfl) (fun X hG hX => ?_)
  have hG : G TX X RX1 cX1_becomes 2 1 30 none := hG
  show J TX X 2 0 [some (aR 13), some (aR 2)] [] μ
  refine J.aload_n hG dX1_becomes_0 rfl rfl ?_
  refine J.aload_n hG dX1_becomes_1 rfl rfl ?_
  refine J.getI hG ciX1 rfl 0 0 rfl (Nat.le_of_ble_eq_true rfl) rfl fl_X1_9 dX1_becomes_2 ?_
  refine J.putI hG ciX1 rfl 0 0 rfl (Nat.le_of_ble_eq_true rfl) rfl fl_X1_9 rfl rfl dX1_becomes_5 ?_
  refine J.aload_n hG dX1_becomes_8 rfl rfl ?_
  refine J.aload_n hG dX1_becomes_9 rfl rfl ?_
  refine J.getI hG ciX1 rfl 1 1 rfl (Nat.le_of_ble_eq_true rfl) rfl fl_X1_15 dX1_becomes_10 ?_
  refine J.putI hG ciX1 rfl 1 1 rfl (Nat.le_of_ble_eq_true rfl) rfl fl_X1_15 rfl rfl dX1_becomes_13 ?_
  refine J.aload_n hG dX1_becomes_16 rfl rfl ?_
  refine J.aload_n hG dX1_becomes_17 rfl rfl ?_
  refine J.getI hG ciX1 rfl 2 2 rfl (Nat.le_of_ble_eq_true rfl) rfl fl_X1_18 dX1_becomes_18 ?_
  refine J.putI hG ciX1 rfl 2 2 rfl (Nat.le_of_ble_eq_true rfl) rfl fl_X1_18 rfl rfl dX1_becomes_21 ?_
  refine J.aload_n hG dX1_becomes_24 rfl rfl ?_
  refine J.aload_n hG dX1_becomes_25 rfl rfl ?_
  refine J.getI hG ciX1 rfl 3 3 rfl (Nat.le_of_ble_eq_true rfl) rfl fl_X1_21 dX1_becomes_26 ?_
  refine J.putI hG ciX1 rfl 3 3 rfl (Nat.le_of_ble_eq_true rfl) rfl fl_X1_21 rfl rfl dX1_becomes_29 ?_
  refine J.aload_n hG dX1_becomes_32 rfl rfl ?_
  refine J.getR hG ciX1 rfl 4 4 rfl (Nat.le_of_ble_eq_true rfl) rfl fl_X1_24 dX1_becomes_33 ?_
  refine J.iconst hG dX1_becomes_36 (by decide) ?_
  refine J.aload_n hG dX1_becomes_37 rfl rfl ?_
  refine J.getR hG ciX1 rfl 4 4 rfl (Nat.le_of_ble_eq_true rfl) rfl fl_X1_24 dX1_becomes_38 ?_
  refine J.iconst hG dX1_becomes_41 (by decide) ?_
  refine J.iconst hG dX1_becomes_42 (by decide) ?_
  refine J.copy hG rfl rfl (by omega) (by omega) (by omega) ml_X1_34 (Nat.le_of_ble_eq_true rfl) (Nat.le_of_ble_eq_true rfl) dX1_becomes_43 ?_
  refine J.aload_n hG dX1_becomes_46 rfl rfl ?_
  refine J.getR hG ciX1 rfl 5 5 rfl (Nat.le_of_ble_eq_true rfl) rfl fl_X1_28 dX1_becomes_47 ?_
  refine J.iconst hG dX1_becomes_50 (by decide) ?_
  refine J.aload_n hG dX1_becomes_51 rfl rfl ?_
  refine J.getR hG ciX1 rfl 5 5 rfl (Nat.le_of_ble_eq_true rfl) rfl fl_X1_28 dX1_becomes_52 ?_
  refine J.iconst hG dX1_becomes_55 (by decide) ?_
  refine J.bipush hG dX1_becomes_56 (by decide) (by decide) ?_
  refine J.copy hG rfl rfl (by omega) (by omega) (by omega) ml_X1_34 (Nat.le_of_ble_eq_true rfl) (Nat.le_of_ble_eq_true rfl) dX1_becomes_58 ?_
  refine J.aload_n hG dX1_becomes_61 rfl rfl ?_
  refine J.getR hG ciX1 rfl 6 6 rfl (Nat.le_of_ble_eq_true rfl) rfl fl_X1_31 dX1_becomes_62 ?_
  refine J.iconst hG dX1_becomes_65 (by decide) ?_
  refine J.aload_n hG dX1_becomes_66 rfl rfl ?_
  refine J.getR hG ciX1 rfl 6 6 rfl (Nat.le_of_ble_eq_true rfl) rfl fl_X1_31 dX1_becomes_67 ?_
  refine J.iconst hG dX1_becomes_70 (by decide) ?_
  refine J.bipush hG dX1_becomes_71 (by decide) (by decide) ?_
  refine J.copy hG rfl rfl (by omega) (by omega) (by omega) ml_X1_34 (Nat.le_of_ble_eq_true rfl) (Nat.le_of_ble_eq_true rfl) dX1_becomes_73 ?_
  refine J.vret hG dX1_becomes_76 ?_
  rw [hX]; dsimp only
  exact ⟨rfl, rfl⟩

set_option maxRecDepth 100000 in
set_option maxHeartbeats 4000000 in
theorem X6_land (μ : Mem) (hT : XTx μ) : CT TX md_X6_land [aR 0] μ (fun rv μ1 => ∃ (ν : Mem) (m : Nat), (∀ c : Nat, c ≠ 11 → c ≠ 12 → ν c = μ c) ∧ Toks ν m ∧ ((∃ f, 0 ≤ f ∧ loopS 200 (startS ν) = .inl f ∧ rv = some (aI (-10 - f)) ∧ BadF ν μ1) ∨ (∃ σ, loopS 200 (startS ν) = .inr σ ∧ rv = some (aI (σ 1 7)) ∧ μ1 = landM σ ∧ 0 ≤ σ 1 7 ∧ (∀ c : Nat, (c = 0 ∨ c = 6 ∨ 9 < c) → σ c = ν c) ∧ σ 1 0 = ν 1 0))) := by
  refine CT.of (Nat.le_of_ble_eq_true rfl) (by decide) rfl (Nat.le_of_ble_eq_true rfl) (fun X hG hX => ?_)
  have hG : G TX X RX6 cX6_land 3 5 109 (some .int) := hG
  show J TX X 3 0 [some (aR 0), none, none] [] μ
  have l2 : ∀ (σ : Mem) (x : Int), PostX X (some (aI x)) (σ) → J TX X 3 76 [some (aR 0), some (aI x), some (aI (0 + 1 + 1))] [] σ := by
    intro σ x hp
    refine J.iload_n hG dX6_land_76 rfl rfl ?_
    refine J.iconst hG dX6_land_77 (by decide) ?_
    refine J.icmp_ge hG 94 dX6_land_78 rfl (fun h78 => ?_) (fun h78 => absurd h78 (by omega))
    refine J.iload_n hG dX6_land_94 rfl rfl ?_
    refine J.iret hG dX6_land_95 ?_
    exact hp
  have l1 : ∀ (σ : Mem) (x : Int), PostX X (some (aI x)) (up σ 64 (0 + 1) 0) → J TX X 3 76 [some (aR 0), some (aI x), some (aI (0 + 1))] [] σ := by
    intro σ x hp
    refine J.iload_n hG dX6_land_76 rfl rfl ?_
    refine J.iconst hG dX6_land_77 (by decide) ?_
    refine J.icmp_ge hG 94 dX6_land_78 rfl (fun h78 => absurd h78 (by omega)) (fun h78 => ?_)
    refine J.aload_n hG dX6_land_81 rfl rfl ?_
    refine J.getR hG ciX6 rfl 5 5 rfl (Nat.le_of_ble_eq_true rfl) rfl fl_X6_41 dX6_land_82 ?_
    refine J.iload_n hG dX6_land_85 rfl rfl ?_
    refine J.iconst hG dX6_land_86 (by decide) ?_
    refine J.zast hG rfl (by omega) (by omega) (by first | exact Or.inl rfl | exact Or.inr rfl) dX6_land_87 ?_
    refine J.iinc hG dX6_land_88 (Nat.le_of_ble_eq_true rfl) rfl (fun _ => (by omega)) ?_
    refine J.goto hG 76 dX6_land_91 rfl ?_
    exact l2 _ _ hp
  have l0 : ∀ (σ : Mem) (x : Int), PostX X (some (aI x)) (up (up σ 64 0 0) 64 (0 + 1) 0) → J TX X 3 76 [some (aR 0), some (aI x), some (aI 0)] [] σ := by
    intro σ x hp
    refine J.iload_n hG dX6_land_76 rfl rfl ?_
    refine J.iconst hG dX6_land_77 (by decide) ?_
    refine J.icmp_ge hG 94 dX6_land_78 rfl (fun h78 => absurd h78 (by omega)) (fun h78 => ?_)
    refine J.aload_n hG dX6_land_81 rfl rfl ?_
    refine J.getR hG ciX6 rfl 5 5 rfl (Nat.le_of_ble_eq_true rfl) rfl fl_X6_41 dX6_land_82 ?_
    refine J.iload_n hG dX6_land_85 rfl rfl ?_
    refine J.iconst hG dX6_land_86 (by decide) ?_
    refine J.zast hG rfl (by omega) (by omega) (by first | exact Or.inl rfl | exact Or.inr rfl) dX6_land_87 ?_
    refine J.iinc hG dX6_land_88 (Nat.le_of_ble_eq_true rfl) rfl (fun _ => (by omega)) ?_
    refine J.goto hG 76 dX6_land_91 rfl ?_
    exact l1 _ _ hp
  refine J.aload_n hG dX6_land_0 rfl rfl ?_
  refine J.getR hG ciX6 rfl 0 0 rfl (Nat.le_of_ble_eq_true rfl) rfl fl_X6_10 dX6_land_1 ?_
  refine J.callV hG (X5_reads _ hT) ok_X5_reads ml_X6_82 rfl rfl rfl rfl (Nat.le_of_ble_eq_true rfl) ⟨Nat.le_of_ble_eq_true rfl, Nat.le_of_ble_eq_true rfl⟩ dX6_land_4 rfl (fun r1 μa hp1 => ?_)
  rcases hp1 with ⟨ν, m, w1, w2, ⟨f, w0, w3, rfl, w4⟩ | ⟨σ, w3, rfl, rfl, w4, w5, w6⟩⟩
  · have w5 := w4.2.2.2
    refine J.istore_n hG dX6_land_7 rfl (Nat.le_of_ble_eq_true rfl) ?_
    refine J.iload_n hG dX6_land_8 rfl rfl ?_
    refine J.if_ge hG 14 dX6_land_9 rfl (fun h9 => absurd h9 (by omega)) (fun h9 => ?_)
    refine J.iload_n hG dX6_land_12 rfl rfl ?_
    refine J.iret hG dX6_land_13 ?_
    rw [hX]; dsimp only
    exact ⟨ν, m, w1, w2, Or.inl ⟨f, w0, w3, rfl, w4⟩⟩
  · refine J.istore_n hG dX6_land_7 rfl (Nat.le_of_ble_eq_true rfl) ?_
    refine J.iload_n hG dX6_land_8 rfl rfl ?_
    refine J.if_ge hG 14 dX6_land_9 rfl (fun h9 => ?_) (fun h9 => absurd h9 (by omega))
    refine J.aload_n hG dX6_land_14 rfl rfl ?_
    refine J.getR hG ciX6 rfl 1 1 rfl (Nat.le_of_ble_eq_true rfl) rfl fl_X6_19 dX6_land_15 ?_
    refine J.aload_n hG dX6_land_18 rfl rfl ?_
    refine J.getR hG ciX6 rfl 0 0 rfl (Nat.le_of_ble_eq_true rfl) rfl fl_X6_10 dX6_land_19 ?_
    refine J.getR hG ciX5 rfl 1 1 rfl (Nat.le_of_ble_eq_true rfl) rfl fl_X6_86 dX6_land_22 ?_
    refine J.callV hG (X1_becomes _) ok_X1_becomes ml_X6_89 rfl rfl rfl rfl (Nat.le_of_ble_eq_true rfl) ⟨Nat.le_of_ble_eq_true rfl, Nat.le_of_ble_eq_true rfl⟩ dX6_land_25 rfl (fun r1 μ1 hp1 => ?_)
    obtain ⟨rfl, rfl⟩ := hp1
    refine J.aload_n hG dX6_land_28 rfl rfl ?_
    refine J.getR hG ciX6 rfl 2 2 rfl (Nat.le_of_ble_eq_true rfl) rfl fl_X6_26 dX6_land_29 ?_
    refine J.aload_n hG dX6_land_32 rfl rfl ?_
    refine J.getR hG ciX6 rfl 0 0 rfl (Nat.le_of_ble_eq_true rfl) rfl fl_X6_10 dX6_land_33 ?_
    refine J.getR hG ciX5 rfl 2 2 rfl (Nat.le_of_ble_eq_true rfl) rfl fl_X6_93 dX6_land_36 ?_
    refine J.callV hG (X2_becomes _ _ _ mom_6 mom_17) ok_X2_becomes ml_X6_96 rfl rfl rfl rfl (Nat.le_of_ble_eq_true rfl) ⟨Nat.le_of_ble_eq_true rfl, Nat.le_of_ble_eq_true rfl⟩ dX6_land_39 rfl (fun r1 μ1 hp1 => ?_)
    obtain ⟨rfl, rfl⟩ := hp1
    refine J.aload_n hG dX6_land_42 rfl rfl ?_
    refine J.getR hG ciX6 rfl 0 0 rfl (Nat.le_of_ble_eq_true rfl) rfl fl_X6_10 dX6_land_43 ?_
    refine J.iconst hG dX6_land_46 (by decide) ?_
    refine J.putI hG ciX5 rfl 0 0 rfl (Nat.le_of_ble_eq_true rfl) rfl fl_X6_78 rfl rfl dX6_land_47 ?_
    refine J.aload_n hG dX6_land_50 rfl rfl ?_
    refine J.getR hG ciX6 rfl 3 3 rfl (Nat.le_of_ble_eq_true rfl) rfl fl_X6_33 dX6_land_51 ?_
    refine J.iconst hG dX6_land_54 (by decide) ?_
    refine J.putI hG ciX3 rfl 0 0 rfl (Nat.le_of_ble_eq_true rfl) rfl fl_X6_99 rfl rfl dX6_land_55 ?_
    refine J.aload_n hG dX6_land_58 rfl rfl ?_
    refine J.getR hG ciX6 rfl 6 6 rfl (Nat.le_of_ble_eq_true rfl) rfl fl_X6_48 dX6_land_59 ?_
    refine J.iconst hG dX6_land_62 (by decide) ?_
    refine J.putI hG ciX0 rfl 0 0 rfl (Nat.le_of_ble_eq_true rfl) rfl fl_X6_102 rfl rfl dX6_land_63 ?_
    refine J.aload_n hG dX6_land_66 rfl rfl ?_
    refine J.getR hG ciX6 rfl 7 7 rfl (Nat.le_of_ble_eq_true rfl) rfl fl_X6_55 dX6_land_67 ?_
    refine J.iconst hG dX6_land_70 (by decide) ?_
    refine J.putI hG ciX4 rfl 0 0 rfl (Nat.le_of_ble_eq_true rfl) rfl fl_X6_105 rfl rfl dX6_land_71 ?_
    refine J.iconst hG dX6_land_74 (by decide) ?_
    refine J.istore_n hG dX6_land_75 rfl (Nat.le_of_ble_eq_true rfl) ?_
    refine l0 _ _ ?_
    rw [hX]; dsimp only
    exact ⟨ν, m, w1, w2, Or.inr ⟨_, w3, rfl, rfl, w4, w5, w6⟩⟩


/-! THE REFERENCE -/
def th (μ : Mem) : Mem := up μ 0 0 0
/-- the reference: what stands fast -/
def MB (μ : Mem) : Prop := (0 ≤ μ 0 14 ∧ μ 0 14 ≤ 4) ∧ (0 ≤ μ 0 15 ∧ μ 0 15 ≤ 4) ∧ (0 ≤ μ 0 16 ∧ μ 0 16 ≤ 8) ∧ (0 ≤ μ 0 17 ∧ μ 0 17 ≤ 9) ∧ (∀ s : Int, 0 ≤ s → s < μ 0 14 → 2 ≤ μ 2 s ∧ μ 2 s ≤ 30) ∧ (∀ l s : Int, 0 ≤ l → l < μ 0 15 → 0 ≤ s → s < μ 0 14 → 0 ≤ μ 5 (4 * l + s) ∧ μ 5 (4 * l + s) ≤ 6 ∧ 0 ≤ μ 7 (8 + 4 * l + s) ∧ μ 7 (8 + 4 * l + s) ≤ μ 2 s)
/-- what a row of now holds of it: the values in range -/
def RB (μ : Mem) (c : Nat) : Prop := (TM[c]? = some (.inr (0, 26, [])) ∧ c ≠ 0 ∧ c ≠ 2 ∧ c ≠ 5) ∧ ∀ l s : Int, 0 ≤ l → l < μ 0 15 → 0 ≤ s → s < μ 0 14 → 0 ≤ μ c (8 + 4 * l + s) ∧ μ c (8 + 4 * l + s) ≤ μ 2 s
theorem MB_RB {μ : Mem} (h : MB μ) : RB μ 7 := ⟨⟨rfl, by decide, by decide, by decide⟩, fun l s a b c d => (h.2.2.2.2.2 l s a b c d).2.2⟩
/-- the end of a value by a row of now -/
def mEn (μ : Mem) (c : Nat) (s v : Int) : Int := EB (μ c (2 * s)) (μ c (2 * s + 1)) (μ 2 s) v
def mE (μ : Mem) (c : Nat) (l s : Int) : Int := mEn μ c s (μ c (8 + 4 * l + s))
def mU (μ : Mem) (c : Nat) (l : Int) : Int := fs3 (fun s => mE μ c l s) (μ 0 14).toNat 0
def mBits (μ : Mem) (c : Nat) : Int := smf (fun l => if mU μ c l = -9 then 0 else p2 l) 0 (μ 0 15).toNat
def mC (μ : Mem) (e l : Int) : Int := smf (fun s => if mE μ 7 l s = e then 1 else 0) 0 (μ 0 14).toNat
def mDr (μ : Mem) : Int := smf (fun l => mC μ 2 l) 0 (μ 0 15).toNat
theorem mC_bound (μ : Mem) (e l : Int) (h : 0 ≤ μ 0 14 ∧ μ 0 14 ≤ 4) : 0 ≤ mC μ e l ∧ mC μ e l ≤ 4 := by
  have := smf_bound (f := fun s => if mE μ 7 l s = e then 1 else 0) (a := 0) (b := 1) (μ 0 14).toNat 0 (fun i _ _ => by constructor <;> split <;> omega)
  unfold mC
  omega
theorem or_0 (a : Int) (h : okI a) : (Int32.ofInt a ||| Int32.ofInt 0).toInt = a := by
  have e : Int32.ofInt a ||| Int32.ofInt 0 = Int32.ofInt a := by
    show Int32.ofInt a ||| 0 = _
    simp
  rw [e, toI h]
theorem shr_all : ∀ x : Fin 16, ∀ k : Fin 4, ((Int32.ofInt ((Int32.ofInt (x.val : Nat) >>> (Int32.ofInt (k.val : Nat) &&& 31)).toInt)) &&& Int32.ofInt 1).toInt = ((x.val : Nat) : Int) / p2 (k.val : Nat) % 2 := by decide
theorem shr_1 (x k : Int) (hx : 0 ≤ x ∧ x ≤ 15) (hk : 0 ≤ k ∧ k < 4) : (Int32.ofInt ((Int32.ofInt x >>> (Int32.ofInt k &&& 31)).toInt) &&& Int32.ofInt 1).toInt = x / p2 k % 2 := by
  have := shr_all ⟨x.toNat, by omega⟩ ⟨k.toNat, by omega⟩
  simp only [Int.toNat_of_nonneg hx.1, Int.toNat_of_nonneg hk.1] at this
  exact this
theorem mBits_bound (μ : Mem) (c : Nat) (h : 0 ≤ μ 0 15 ∧ μ 0 15 ≤ 4) : 0 ≤ mBits μ c ∧ mBits μ c ≤ 15 := xBits_aux _ (fun i => by split <;> simp) _ h

set_option maxRecDepth 100000 in
set_option maxHeartbeats 4000000 in
theorem X7_in (μ : Mem) (v a b : Int) : CT TM md_X7_in [aI v, aI a, aI b] μ (fun rv μ1 => rv = some (aI (if a ≤ v ∧ v ≤ b then 1 else 0)) ∧ μ = μ1) := by
  refine CT.of (Nat.le_of_ble_eq_true rfl) (by decide) rfl (Nat.le_of_ble_eq_true rfl) (fun X hG hX => ?_)
  have hG : G TM X RX7 cX7_in 3 0 0 (some .boolean) := hG
  show J TM X 3 0 [some (aI v), some (aI a), some (aI b)] [] μ
  refine J.iload_n hG dX7_in_0 rfl rfl ?_
  refine J.iload_n hG dX7_in_1 rfl rfl ?_
  refine J.icmp_lt hG 14 dX7_in_2 rfl (fun h2 => ?_) (fun h2 => ?_)
  · refine J.iconst hG dX7_in_14 (by decide) ?_
    refine J.zret hG (by first | exact Or.inl rfl | exact Or.inr rfl | assumption | (split <;> first | exact Or.inl rfl | exact Or.inr rfl)) dX7_in_15 ?_
    rw [hX]; dsimp only
    exact ⟨by congr 2; (split <;> omega), rfl⟩
  · refine J.iload_n hG dX7_in_5 rfl rfl ?_
    refine J.iload_n hG dX7_in_6 rfl rfl ?_
    refine J.icmp_gt hG 14 dX7_in_7 rfl (fun h7 => ?_) (fun h7 => ?_)
    · refine J.iconst hG dX7_in_14 (by decide) ?_
      refine J.zret hG (by first | exact Or.inl rfl | exact Or.inr rfl | assumption | (split <;> first | exact Or.inl rfl | exact Or.inr rfl)) dX7_in_15 ?_
      rw [hX]; dsimp only
      exact ⟨by congr 2; (split <;> omega), rfl⟩
    · refine J.iconst hG dX7_in_10 (by decide) ?_
      refine J.goto hG 15 dX7_in_11 rfl ?_
      refine J.zret hG (by first | exact Or.inl rfl | exact Or.inr rfl | assumption | (split <;> first | exact Or.inl rfl | exact Or.inr rfl)) dX7_in_15 ?_
      rw [hX]; dsimp only
      exact ⟨by congr 2; (split <;> omega), rfl⟩

set_option maxRecDepth 100000 in
set_option maxHeartbeats 4000000 in
theorem X7_isScale (μ : Mem) (s : Int) (h : 0 ≤ μ 0 14 ∧ μ 0 14 ≤ 8) : CT TM md_X7_isScale [aR 0, aI s] μ (fun rv μ1 => rv = some (aI (if 0 ≤ s ∧ s ≤ μ 0 14 - 1 then 1 else 0)) ∧ μ = μ1) := by
  refine CT.of (Nat.le_of_ble_eq_true rfl) (by decide) rfl (Nat.le_of_ble_eq_true rfl) (fun X hG hX => ?_)
  have hG : G TM X RX7 cX7_isScale 2 1 22 (some .boolean) := hG
  show J TM X 2 0 [some (aR 0), some (aI s)] [] μ
  refine J.iload_n hG dX7_isScale_0 rfl rfl ?_
  refine J.iconst hG dX7_isScale_1 (by decide) ?_
  refine J.aload_n hG dX7_isScale_2 rfl rfl ?_
  refine J.getI hG ciX7 rfl 14 14 rfl (Nat.le_of_ble_eq_true rfl) rfl fl_X7_141 dX7_isScale_3 ?_
  refine J.iconst hG dX7_isScale_6 (by decide) ?_
  refine J.isub hG dX7_isScale_7 (fun _ _ => (by omega)) ?_
  refine J.callS hG (X7_in _ _ _ _) ok_X7_in ml_X7_78 rfl (Nat.le_of_ble_eq_true rfl) ⟨Nat.le_of_ble_eq_true rfl, Nat.le_of_ble_eq_true rfl⟩ dX7_isScale_8 rfl (fun r1 μ1 hp1 => ?_)
  obtain ⟨rfl, rfl⟩ := hp1
  refine J.zret hG (by first | exact Or.inl rfl | exact Or.inr rfl | assumption | (split <;> first | exact Or.inl rfl | exact Or.inr rfl)) dX7_isScale_11 ?_
  rw [hX]; dsimp only
  exact ⟨rfl, rfl⟩

set_option maxRecDepth 100000 in
set_option maxHeartbeats 4000000 in
theorem X7_isLife (μ : Mem) (s : Int) (h : 0 ≤ μ 0 15 ∧ μ 0 15 ≤ 8) : CT TM md_X7_isLife [aR 0, aI s] μ (fun rv μ1 => rv = some (aI (if 0 ≤ s ∧ s ≤ μ 0 15 - 1 then 1 else 0)) ∧ μ = μ1) := by
  refine CT.of (Nat.le_of_ble_eq_true rfl) (by decide) rfl (Nat.le_of_ble_eq_true rfl) (fun X hG hX => ?_)
  have hG : G TM X RX7 cX7_isLife 2 1 22 (some .boolean) := hG
  show J TM X 2 0 [some (aR 0), some (aI s)] [] μ
  refine J.iload_n hG dX7_isLife_0 rfl rfl ?_
  refine J.iconst hG dX7_isLife_1 (by decide) ?_
  refine J.aload_n hG dX7_isLife_2 rfl rfl ?_
  refine J.getI hG ciX7 rfl 15 15 rfl (Nat.le_of_ble_eq_true rfl) rfl fl_X7_144 dX7_isLife_3 ?_
  refine J.iconst hG dX7_isLife_6 (by decide) ?_
  refine J.isub hG dX7_isLife_7 (fun _ _ => (by omega)) ?_
  refine J.callS hG (X7_in _ _ _ _) ok_X7_in ml_X7_78 rfl (Nat.le_of_ble_eq_true rfl) ⟨Nat.le_of_ble_eq_true rfl, Nat.le_of_ble_eq_true rfl⟩ dX7_isLife_8 rfl (fun r1 μ1 hp1 => ?_)
  obtain ⟨rfl, rfl⟩ := hp1
  refine J.zret hG (by first | exact Or.inl rfl | exact Or.inr rfl | assumption | (split <;> first | exact Or.inl rfl | exact Or.inr rfl)) dX7_isLife_11 ?_
  rw [hX]; dsimp only
  exact ⟨rfl, rfl⟩

set_option maxRecDepth 100000 in
set_option maxHeartbeats 4000000 in
theorem X7_isPlace (μ : Mem) (s : Int) (h : 0 ≤ μ 0 16 ∧ μ 0 16 ≤ 8) : CT TM md_X7_isPlace [aR 0, aI s] μ (fun rv μ1 => rv = some (aI (if 0 ≤ s ∧ s ≤ μ 0 16 - 1 then 1 else 0)) ∧ μ = μ1) := by
  refine CT.of (Nat.le_of_ble_eq_true rfl) (by decide) rfl (Nat.le_of_ble_eq_true rfl) (fun X hG hX => ?_)
  have hG : G TM X RX7 cX7_isPlace 2 1 22 (some .boolean) := hG
  show J TM X 2 0 [some (aR 0), some (aI s)] [] μ
  refine J.iload_n hG dX7_isPlace_0 rfl rfl ?_
  refine J.iconst hG dX7_isPlace_1 (by decide) ?_
  refine J.aload_n hG dX7_isPlace_2 rfl rfl ?_
  refine J.getI hG ciX7 rfl 16 16 rfl (Nat.le_of_ble_eq_true rfl) rfl fl_X7_147 dX7_isPlace_3 ?_
  refine J.iconst hG dX7_isPlace_6 (by decide) ?_
  refine J.isub hG dX7_isPlace_7 (fun _ _ => (by omega)) ?_
  refine J.callS hG (X7_in _ _ _ _) ok_X7_in ml_X7_78 rfl (Nat.le_of_ble_eq_true rfl) ⟨Nat.le_of_ble_eq_true rfl, Nat.le_of_ble_eq_true rfl⟩ dX7_isPlace_8 rfl (fun r1 μ1 hp1 => ?_)
  obtain ⟨rfl, rfl⟩ := hp1
  refine J.zret hG (by first | exact Or.inl rfl | exact Or.inr rfl | assumption | (split <;> first | exact Or.inl rfl | exact Or.inr rfl)) dX7_isPlace_11 ?_
  rw [hX]; dsimp only
  exact ⟨rfl, rfl⟩

set_option maxRecDepth 100000 in
set_option maxHeartbeats 4000000 in
theorem X7_endBy (μ : Mem) (w t r v : Int) (h : -1000000 ≤ v ∧ v ≤ 1000000) : CT TM md_X7_endBy [aI w, aI t, aI r, aI v] μ (fun rv μ1 => rv = some (aI (EB w t r v)) ∧ μ = μ1) := by
  refine CT.of (Nat.le_of_ble_eq_true rfl) (by decide) rfl (Nat.le_of_ble_eq_true rfl) (fun X hG hX => ?_)
  have hG : G TM X RX7 cX7_endBy 4 0 0 (some .int) := hG
  show J TM X 4 0 [some (aI w), some (aI t), some (aI r), some (aI v)] [] μ
  refine J.iload_n hG dX7_endBy_0 rfl rfl ?_
  refine J.if_ne hG 15 dX7_endBy_1 rfl (fun h1 => ?_) (fun h1 => ?_)
  · refine J.iload_n hG dX7_endBy_15 rfl rfl ?_
    refine J.iconst hG dX7_endBy_16 (by decide) ?_
    refine J.icmp_ne hG 44 dX7_endBy_17 rfl (fun h17 => ?_) (fun h17 => ?_)
    · refine J.iload_n hG dX7_endBy_44 rfl rfl ?_
      refine J.if_ne hG 52 dX7_endBy_45 rfl (fun h45 => ?_) (fun h45 => ?_)
      · refine J.iload_n hG dX7_endBy_52 rfl rfl ?_
        refine J.iload_n hG dX7_endBy_53 rfl rfl ?_
        refine J.icmp_ne hG 61 dX7_endBy_54 rfl (fun h54 => ?_) (fun h54 => ?_)
        · refine J.iload_n hG dX7_endBy_61 rfl rfl ?_
          refine J.iconst hG dX7_endBy_62 (by decide) ?_
          refine J.icmp_ne hG 70 dX7_endBy_63 rfl (fun h63 => ?_) (fun h63 => ?_)
          · refine J.iconst hG dX7_endBy_70 (by decide) ?_
            refine J.iret hG dX7_endBy_71 ?_
            rw [hX]; dsimp only
            exact ⟨by congr 2; unfold EB; (repeat' split) <;> omega, rfl⟩
          · refine J.iconst hG dX7_endBy_66 (by decide) ?_
            refine J.goto hG 71 dX7_endBy_67 rfl ?_
            refine J.iret hG dX7_endBy_71 ?_
            rw [hX]; dsimp only
            exact ⟨by congr 2; unfold EB; (repeat' split) <;> omega, rfl⟩
        · refine J.iconst hG dX7_endBy_57 (by decide) ?_
          refine J.goto hG 71 dX7_endBy_58 rfl ?_
          refine J.iret hG dX7_endBy_71 ?_
          rw [hX]; dsimp only
          exact ⟨by congr 2; unfold EB; (repeat' split) <;> omega, rfl⟩
      · refine J.iconst hG dX7_endBy_48 (by decide) ?_
        refine J.goto hG 71 dX7_endBy_49 rfl ?_
        refine J.iret hG dX7_endBy_71 ?_
        rw [hX]; dsimp only
        exact ⟨by congr 2; unfold EB; (repeat' split) <;> omega, rfl⟩
    · refine J.iconst hG dX7_endBy_20 (by decide) ?_
      refine J.iload_n hG dX7_endBy_21 rfl rfl ?_
      refine J.imul hG dX7_endBy_22 (fun _ _ => (by omega)) ?_
      refine J.iload_n hG dX7_endBy_23 rfl rfl ?_
      refine J.icmp_ge hG 31 dX7_endBy_24 rfl (fun h24 => ?_) (fun h24 => ?_)
      · refine J.iconst hG dX7_endBy_31 (by decide) ?_
        refine J.iload_n hG dX7_endBy_32 rfl rfl ?_
        refine J.imul hG dX7_endBy_33 (fun _ _ => (by omega)) ?_
        refine J.iload_n hG dX7_endBy_34 rfl rfl ?_
        refine J.icmp_le hG 42 dX7_endBy_35 rfl (fun h35 => ?_) (fun h35 => ?_)
        · refine J.iconst hG dX7_endBy_42 (by decide) ?_
          refine J.iret hG dX7_endBy_43 ?_
          rw [hX]; dsimp only
          exact ⟨by congr 2; unfold EB; (repeat' split) <;> omega, rfl⟩
        · refine J.iconst hG dX7_endBy_38 (by decide) ?_
          refine J.goto hG 43 dX7_endBy_39 rfl ?_
          refine J.iret hG dX7_endBy_43 ?_
          rw [hX]; dsimp only
          exact ⟨by congr 2; unfold EB; (repeat' split) <;> omega, rfl⟩
      · refine J.iconst hG dX7_endBy_27 (by decide) ?_
        refine J.goto hG 43 dX7_endBy_28 rfl ?_
        refine J.iret hG dX7_endBy_43 ?_
        rw [hX]; dsimp only
        exact ⟨by congr 2; unfold EB; (repeat' split) <;> omega, rfl⟩
  · refine J.iload_n hG dX7_endBy_4 rfl rfl ?_
    refine J.iload_n hG dX7_endBy_5 rfl rfl ?_
    refine J.icmp_ge hG 13 dX7_endBy_6 rfl (fun h6 => ?_) (fun h6 => ?_)
    · refine J.iconst hG dX7_endBy_13 (by decide) ?_
      refine J.iret hG dX7_endBy_14 ?_
      rw [hX]; dsimp only
      exact ⟨by congr 2; unfold EB; (repeat' split) <;> omega, rfl⟩
    · refine J.iconst hG dX7_endBy_9 (by decide) ?_
      refine J.goto hG 14 dX7_endBy_10 rfl ?_
      refine J.iret hG dX7_endBy_14 ?_
      rw [hX]; dsimp only
      exact ⟨by congr 2; unfold EB; (repeat' split) <;> omega, rfl⟩

set_option maxRecDepth 100000 in
set_option maxHeartbeats 4000000 in
theorem X7_endOf (μ : Mem) (c : Nat) (hc : TM[c]? = some (.inr (0, 26, []))) (s v : Int) (hs : 0 ≤ s ∧ s < 4) (h : -1000000 ≤ v ∧ v ≤ 1000000) : CT TM md_X7_endOf [aR 0, aR c, aI s, aI v] μ (fun rv μ1 => rv = some (aI (mEn μ c s v)) ∧ μ = μ1) := by
  refine CT.of (Nat.le_of_ble_eq_true rfl) (by decide) rfl (Nat.le_of_ble_eq_true rfl) (fun X hG hX => ?_)
  have hG : G TM X RX7 cX7_endOf 4 1 23 (some .int) := hG
  show J TM X 4 0 [some (aR 0), some (aR c), some (aI s), some (aI v)] [] μ
  refine J.aload_n hG dX7_endOf_0 rfl rfl ?_
  refine J.iconst hG dX7_endOf_1 (by decide) ?_
  refine J.iload_n hG dX7_endOf_2 rfl rfl ?_
  refine J.imul hG dX7_endOf_3 (fun _ _ => (by omega)) ?_
  refine J.iald hG hc (by omega) (by omega) dX7_endOf_4 ?_
  refine J.aload_n hG dX7_endOf_5 rfl rfl ?_
  refine J.iconst hG dX7_endOf_6 (by decide) ?_
  refine J.iload_n hG dX7_endOf_7 rfl rfl ?_
  refine J.imul hG dX7_endOf_8 (fun _ _ => (by omega)) ?_
  refine J.iconst hG dX7_endOf_9 (by decide) ?_
  refine J.iadd hG dX7_endOf_10 (fun _ _ => (by omega)) ?_
  refine J.iald hG hc (by omega) (by omega) dX7_endOf_11 ?_
  refine J.aload_n hG dX7_endOf_12 rfl rfl ?_
  refine J.getR hG ciX7 rfl 9 9 rfl (Nat.le_of_ble_eq_true rfl) rfl fl_X7_13 dX7_endOf_13 ?_
  refine J.iload_n hG dX7_endOf_16 rfl rfl ?_
  refine J.iald hG rfl (by omega) (by omega) dX7_endOf_17 ?_
  refine J.iload_n hG dX7_endOf_18 rfl rfl ?_
  refine J.callS hG (X7_endBy _ _ _ _ _ h) ok_X7_endBy ml_X7_163 rfl (Nat.le_of_ble_eq_true rfl) ⟨Nat.le_of_ble_eq_true rfl, Nat.le_of_ble_eq_true rfl⟩ dX7_endOf_19 rfl (fun r1 μ1 hp1 => ?_)
  obtain ⟨rfl, rfl⟩ := hp1
  refine J.iret hG dX7_endOf_22 ?_
  rw [hX]; dsimp only
  exact ⟨rfl, rfl⟩

set_option maxRecDepth 100000 in
set_option maxHeartbeats 4000000 in
theorem X7_endIn (μ : Mem) (c : Nat) (hc : TM[c]? = some (.inr (0, 26, []))) (l s : Int) (hl : 0 ≤ l ∧ l < 4) (hs : 0 ≤ s ∧ s < 4) (h : -1000000 ≤ μ c (8 + 4 * l + s) ∧ μ c (8 + 4 * l + s) ≤ 1000000) : CT TM md_X7_endIn [aR 0, aR c, aI l, aI s] μ (fun rv μ1 => rv = some (aI (mE μ c l s)) ∧ μ = μ1) := by
  refine CT.of (Nat.le_of_ble_eq_true rfl) (by decide) rfl (Nat.le_of_ble_eq_true rfl) (fun X hG hX => ?_)
  have hG : G TM X RX7 cX7_endIn 4 2 46 (some .int) := hG
  show J TM X 4 0 [some (aR 0), some (aR c), some (aI l), some (aI s)] [] μ
  refine J.aload_n hG dX7_endIn_0 rfl rfl ?_
  refine J.aload_n hG dX7_endIn_1 rfl rfl ?_
  refine J.iload_n hG dX7_endIn_2 rfl rfl ?_
  refine J.aload_n hG dX7_endIn_3 rfl rfl ?_
  refine J.bipush hG dX7_endIn_4 (by decide) (by decide) ?_
  refine J.iconst hG dX7_endIn_6 (by decide) ?_
  refine J.iload_n hG dX7_endIn_7 rfl rfl ?_
  refine J.imul hG dX7_endIn_8 (fun _ _ => (by omega)) ?_
  refine J.iadd hG dX7_endIn_9 (fun _ _ => (by omega)) ?_
  refine J.iload_n hG dX7_endIn_10 rfl rfl ?_
  refine J.iadd hG dX7_endIn_11 (fun _ _ => (by omega)) ?_
  refine J.iald hG hc (by omega) (by omega) dX7_endIn_12 ?_
  refine J.callV hG (X7_endOf _ _ hc _ _ hs h) ok_X7_endOf ml_X7_167 rfl rfl rfl rfl (Nat.le_of_ble_eq_true rfl) ⟨Nat.le_of_ble_eq_true rfl, Nat.le_of_ble_eq_true rfl⟩ dX7_endIn_13 rfl (fun r1 μ1 hp1 => ?_)
  obtain ⟨rfl, rfl⟩ := hp1
  refine J.iret hG dX7_endIn_16 ?_
  rw [hX]; dsimp only
  exact ⟨rfl, rfl⟩

set_option maxRecDepth 100000 in
set_option maxHeartbeats 4000000 in
theorem X7_held (μ : Mem) (v r : Int) : CT TM md_X7_held [aI v, aI r] μ (fun rv μ1 => rv = some (aI (cl r v)) ∧ μ = μ1) := by
  refine CT.of (Nat.le_of_ble_eq_true rfl) (by decide) rfl (Nat.le_of_ble_eq_true rfl) (fun X hG hX => ?_)
  have hG : G TM X RX7 cX7_held 2 0 0 (some .int) := hG
  show J TM X 2 0 [some (aI v), some (aI r)] [] μ
  refine J.iload_n hG dX7_held_0 rfl rfl ?_
  refine J.if_ge hG 8 dX7_held_1 rfl (fun h1 => ?_) (fun h1 => ?_)
  · refine J.iload_n hG dX7_held_8 rfl rfl ?_
    refine J.iload_n hG dX7_held_9 rfl rfl ?_
    refine J.icmp_le hG 17 dX7_held_10 rfl (fun h10 => ?_) (fun h10 => ?_)
    · refine J.iload_n hG dX7_held_17 rfl rfl ?_
      refine J.iret hG dX7_held_18 ?_
      rw [hX]; dsimp only
      exact ⟨by congr 2; unfold cl; (repeat' split) <;> omega, rfl⟩
    · refine J.iload_n hG dX7_held_13 rfl rfl ?_
      refine J.goto hG 18 dX7_held_14 rfl ?_
      refine J.iret hG dX7_held_18 ?_
      rw [hX]; dsimp only
      exact ⟨by congr 2; unfold cl; (repeat' split) <;> omega, rfl⟩
  · refine J.iconst hG dX7_held_4 (by decide) ?_
    refine J.goto hG 18 dX7_held_5 rfl ?_
    refine J.iret hG dX7_held_18 ?_
    rw [hX]; dsimp only
    exact ⟨by congr 2; unfold cl; (repeat' split) <;> omega, rfl⟩

set_option maxRecDepth 100000 in
set_option maxHeartbeats 4000000 in
theorem X7_scale (μ0 μ : Mem) (hμ : μ = th μ0) (hB : MB μ) (s w : Int) : CT TM md_X7_scale [aR 0, aI s, aI w] μ0 (fun rv μ1 => rv = some (aI (if (0 ≤ s ∧ s < μ 0 14) ∧ (0 ≤ w ∧ w ≤ 2) then (if w = 0 then μ 7 (2 * s) else if w = 1 then μ 2 s else μ 7 (2 * s + 1)) else -1)) ∧ μ = μ1) := by
  refine CT.of (Nat.le_of_ble_eq_true rfl) (by decide) rfl (Nat.le_of_ble_eq_true rfl) (fun X hG hX => ?_)
  have hG : G TM X RX7 cX7_scale 3 2 43 (some .int) := hG
  show J TM X 3 0 [some (aR 0), some (aI s), some (aI w)] [] μ0
  refine J.aload_n hG dX7_scale_0 rfl rfl ?_
  refine J.iconst hG dX7_scale_1 (by decide) ?_
  refine J.putI hG ciX7 rfl 0 0 rfl (Nat.le_of_ble_eq_true rfl) rfl fl_X7_75 rfl rfl dX7_scale_2 ?_
  show J TM X 3 5 [some (aR 0), some (aI s), some (aI w)] [] (th μ0)
  rw [← hμ]
  have hB2 := hB
  obtain ⟨h1, h2, h3, h4, h5, h6⟩ := hB2
  refine J.aload_n hG dX7_scale_5 rfl rfl ?_
  refine J.iload_n hG dX7_scale_6 rfl rfl ?_
  refine J.callV hG (X7_isScale _ _ (by omega)) ok_X7_isScale ml_X7_159 rfl rfl rfl rfl (Nat.le_of_ble_eq_true rfl) ⟨Nat.le_of_ble_eq_true rfl, Nat.le_of_ble_eq_true rfl⟩ dX7_scale_7 rfl (fun r1 μ1 hp1 => ?_)
  obtain ⟨rfl, rfl⟩ := hp1
  refine J.ifb_eq hG 22 dX7_scale_10 rfl (fun h10 => ?_) (fun h10 => ?_)
  · refine J.iconst hG dX7_scale_22 (by decide) ?_
    refine J.iret hG dX7_scale_23 ?_
    rw [hX]; dsimp only
    exact ⟨by congr 2; try ((repeat' split) <;> first | rfl | (exfalso; omega) | omega), rfl⟩
  · refine J.iload_n hG dX7_scale_13 rfl rfl ?_
    refine J.iconst hG dX7_scale_14 (by decide) ?_
    refine J.iconst hG dX7_scale_15 (by decide) ?_
    refine J.callS hG (X7_in _ _ _ _) ok_X7_in ml_X7_78 rfl (Nat.le_of_ble_eq_true rfl) ⟨Nat.le_of_ble_eq_true rfl, Nat.le_of_ble_eq_true rfl⟩ dX7_scale_16 rfl (fun r1 μ1 hp1 => ?_)
    obtain ⟨rfl, rfl⟩ := hp1
    refine J.ifb_ne hG 24 dX7_scale_19 rfl (fun h19 => ?_) (fun h19 => ?_)
    · refine J.iload_n hG dX7_scale_24 rfl rfl ?_
      refine J.iconst hG dX7_scale_25 (by decide) ?_
      refine J.icmp_ne hG 38 dX7_scale_26 rfl (fun h26 => ?_) (fun h26 => ?_)
      · refine J.aload_n hG dX7_scale_38 rfl rfl ?_
        refine J.getR hG ciX7 rfl 22 22 rfl (Nat.le_of_ble_eq_true rfl) rfl fl_X7_28 dX7_scale_39 ?_
        refine J.iconst hG dX7_scale_42 (by decide) ?_
        refine J.iload_n hG dX7_scale_43 rfl rfl ?_
        refine J.imul hG dX7_scale_44 (fun _ _ => (by omega)) ?_
        refine J.iload_n hG dX7_scale_45 rfl rfl ?_
        refine J.iconst hG dX7_scale_46 (by decide) ?_
        refine J.idiv hG dX7_scale_47 (by omega) (by omega) ?_
        refine J.iadd hG dX7_scale_48 (fun _ _ => (by omega)) ?_
        refine J.iald hG rfl (by omega) (by omega) dX7_scale_49 ?_
        refine J.iret hG dX7_scale_50 ?_
        rw [hX]; dsimp only
        refine ⟨?_, rfl⟩
        congr 2
        rw [if_pos (by omega)]
        rcases (show w = 0 ∨ w = 2 by omega) with rfl | rfl
        · rw [if_pos rfl]; congr 1; omega
        · rw [if_neg (by decide), if_neg (by decide)]; congr 1
      · refine J.aload_n hG dX7_scale_29 rfl rfl ?_
        refine J.getR hG ciX7 rfl 9 9 rfl (Nat.le_of_ble_eq_true rfl) rfl fl_X7_13 dX7_scale_30 ?_
        refine J.iload_n hG dX7_scale_33 rfl rfl ?_
        refine J.iald hG rfl (by omega) (by omega) dX7_scale_34 ?_
        refine J.goto hG 50 dX7_scale_35 rfl ?_
        refine J.iret hG dX7_scale_50 ?_
        rw [hX]; dsimp only
        exact ⟨by congr 2; try ((repeat' split) <;> first | rfl | (exfalso; omega) | omega), rfl⟩
    · refine J.iconst hG dX7_scale_22 (by decide) ?_
      refine J.iret hG dX7_scale_23 ?_
      rw [hX]; dsimp only
      exact ⟨by congr 2; try ((repeat' split) <;> first | rfl | (exfalso; omega) | omega), rfl⟩

set_option maxRecDepth 100000 in
set_option maxHeartbeats 4000000 in
theorem X7_life (μ0 μ : Mem) (hμ : μ = th μ0) (hB : MB μ) (l s w : Int) : CT TM md_X7_life [aR 0, aI l, aI s, aI w] μ0 (fun rv μ1 => rv = some (aI (if (0 ≤ l ∧ l < μ 0 15) ∧ (0 ≤ s ∧ s < μ 0 14) ∧ (0 ≤ w ∧ w ≤ 2) then (if w = 0 then μ 7 (8 + 4 * l + s) else if w = 1 then μ 5 (4 * l + s) else mE μ 7 l s) else -1)) ∧ μ = μ1) := by
  refine CT.of (Nat.le_of_ble_eq_true rfl) (by decide) rfl (Nat.le_of_ble_eq_true rfl) (fun X hG hX => ?_)
  have hG : G TM X RX7 cX7_life 4 3 69 (some .int) := hG
  show J TM X 4 0 [some (aR 0), some (aI l), some (aI s), some (aI w)] [] μ0
  refine J.aload_n hG dX7_life_0 rfl rfl ?_
  refine J.iconst hG dX7_life_1 (by decide) ?_
  refine J.putI hG ciX7 rfl 0 0 rfl (Nat.le_of_ble_eq_true rfl) rfl fl_X7_75 rfl rfl dX7_life_2 ?_
  show J TM X 4 5 [some (aR 0), some (aI l), some (aI s), some (aI w)] [] (th μ0)
  rw [← hμ]
  have hB2 := hB
  obtain ⟨h1, h2, h3, h4, h5, h6⟩ := hB2
  refine J.aload_n hG dX7_life_5 rfl rfl ?_
  refine J.iload_n hG dX7_life_6 rfl rfl ?_
  refine J.callV hG (X7_isLife _ _ (by omega)) ok_X7_isLife ml_X7_171 rfl rfl rfl rfl (Nat.le_of_ble_eq_true rfl) ⟨Nat.le_of_ble_eq_true rfl, Nat.le_of_ble_eq_true rfl⟩ dX7_life_7 rfl (fun r1 μ1 hp1 => ?_)
  obtain ⟨rfl, rfl⟩ := hp1
  refine J.ifb_eq hG 30 dX7_life_10 rfl (fun h10 => ?_) (fun h10 => ?_)
  · refine J.iconst hG dX7_life_30 (by decide) ?_
    refine J.iret hG dX7_life_31 ?_
    rw [hX]; dsimp only
    exact ⟨by congr 2; try ((repeat' split) <;> first | rfl | (exfalso; omega) | omega), rfl⟩
  · refine J.aload_n hG dX7_life_13 rfl rfl ?_
    refine J.iload_n hG dX7_life_14 rfl rfl ?_
    refine J.callV hG (X7_isScale _ _ (by omega)) ok_X7_isScale ml_X7_159 rfl rfl rfl rfl (Nat.le_of_ble_eq_true rfl) ⟨Nat.le_of_ble_eq_true rfl, Nat.le_of_ble_eq_true rfl⟩ dX7_life_15 rfl (fun r1 μ1 hp1 => ?_)
    obtain ⟨rfl, rfl⟩ := hp1
    refine J.ifb_eq hG 30 dX7_life_18 rfl (fun h18 => ?_) (fun h18 => ?_)
    · refine J.iconst hG dX7_life_30 (by decide) ?_
      refine J.iret hG dX7_life_31 ?_
      rw [hX]; dsimp only
      exact ⟨by congr 2; try ((repeat' split) <;> first | rfl | (exfalso; omega) | omega), rfl⟩
    · refine J.iload_n hG dX7_life_21 rfl rfl ?_
      refine J.iconst hG dX7_life_22 (by decide) ?_
      refine J.iconst hG dX7_life_23 (by decide) ?_
      refine J.callS hG (X7_in _ _ _ _) ok_X7_in ml_X7_78 rfl (Nat.le_of_ble_eq_true rfl) ⟨Nat.le_of_ble_eq_true rfl, Nat.le_of_ble_eq_true rfl⟩ dX7_life_24 rfl (fun r1 μ1 hp1 => ?_)
      obtain ⟨rfl, rfl⟩ := hp1
      refine J.ifb_ne hG 32 dX7_life_27 rfl (fun h27 => ?_) (fun h27 => ?_)
      · refine J.iload_n hG dX7_life_32 rfl rfl ?_
        refine J.if_ne hG 52 dX7_life_33 rfl (fun h33 => ?_) (fun h33 => ?_)
        · refine J.iload_n hG dX7_life_52 rfl rfl ?_
          refine J.iconst hG dX7_life_53 (by decide) ?_
          refine J.icmp_ne hG 70 dX7_life_54 rfl (fun h54 => ?_) (fun h54 => ?_)
          · have q5 := h5 s (by omega) (by omega)
            have q6 := h6 l s (by omega) (by omega) (by omega) (by omega)
            refine J.aload_n hG dX7_life_70 rfl rfl ?_
            refine J.aload_n hG dX7_life_71 rfl rfl ?_
            refine J.getR hG ciX7 rfl 22 22 rfl (Nat.le_of_ble_eq_true rfl) rfl fl_X7_28 dX7_life_72 ?_
            refine J.iload_n hG dX7_life_75 rfl rfl ?_
            refine J.iload_n hG dX7_life_76 rfl rfl ?_
            refine J.callV hG (X7_endIn _ _ rfl _ _ (by omega) (by omega) (by omega)) ok_X7_endIn ml_X7_174 rfl rfl rfl rfl (Nat.le_of_ble_eq_true rfl) ⟨Nat.le_of_ble_eq_true rfl, Nat.le_of_ble_eq_true rfl⟩ dX7_life_77 rfl (fun r1 μ1 hp1 => ?_)
            obtain ⟨rfl, rfl⟩ := hp1
            refine J.iret hG dX7_life_80 ?_
            rw [hX]; dsimp only
            exact ⟨by congr 2; try ((repeat' split) <;> first | rfl | (exfalso; omega) | omega), rfl⟩
          · refine J.aload_n hG dX7_life_57 rfl rfl ?_
            refine J.getR hG ciX7 rfl 12 12 rfl (Nat.le_of_ble_eq_true rfl) rfl fl_X7_22 dX7_life_58 ?_
            refine J.iconst hG dX7_life_61 (by decide) ?_
            refine J.iload_n hG dX7_life_62 rfl rfl ?_
            refine J.imul hG dX7_life_63 (fun _ _ => (by omega)) ?_
            refine J.iload_n hG dX7_life_64 rfl rfl ?_
            refine J.iadd hG dX7_life_65 (fun _ _ => (by omega)) ?_
            refine J.iald hG rfl (by omega) (by omega) dX7_life_66 ?_
            refine J.goto hG 80 dX7_life_67 rfl ?_
            refine J.iret hG dX7_life_80 ?_
            rw [hX]; dsimp only
            exact ⟨by congr 2; try ((repeat' split) <;> first | rfl | (exfalso; omega) | omega), rfl⟩
        · refine J.aload_n hG dX7_life_36 rfl rfl ?_
          refine J.getR hG ciX7 rfl 22 22 rfl (Nat.le_of_ble_eq_true rfl) rfl fl_X7_28 dX7_life_37 ?_
          refine J.bipush hG dX7_life_40 (by decide) (by decide) ?_
          refine J.iconst hG dX7_life_42 (by decide) ?_
          refine J.iload_n hG dX7_life_43 rfl rfl ?_
          refine J.imul hG dX7_life_44 (fun _ _ => (by omega)) ?_
          refine J.iadd hG dX7_life_45 (fun _ _ => (by omega)) ?_
          refine J.iload_n hG dX7_life_46 rfl rfl ?_
          refine J.iadd hG dX7_life_47 (fun _ _ => (by omega)) ?_
          refine J.iald hG rfl (by omega) (by omega) dX7_life_48 ?_
          refine J.goto hG 80 dX7_life_49 rfl ?_
          refine J.iret hG dX7_life_80 ?_
          rw [hX]; dsimp only
          exact ⟨by congr 2; try ((repeat' split) <;> first | rfl | (exfalso; omega) | omega), rfl⟩
      · refine J.iconst hG dX7_life_30 (by decide) ?_
        refine J.iret hG dX7_life_31 ?_
        rw [hX]; dsimp only
        exact ⟨by congr 2; try ((repeat' split) <;> first | rfl | (exfalso; omega) | omega), rfl⟩

set_option maxRecDepth 100000 in
set_option maxHeartbeats 4000000 in
theorem X7_end (μ0 μ : Mem) (hμ : μ = th μ0) (hB : MB μ) (s v : Int) : CT TM md_X7_end [aR 0, aI s, aI v] μ0 (fun rv μ1 => rv = some (aI (if (0 ≤ s ∧ s < μ 0 14) ∧ (0 ≤ v ∧ v ≤ μ 2 s) then mEn μ 7 s v else -1)) ∧ μ = μ1) := by
  refine CT.of (Nat.le_of_ble_eq_true rfl) (by decide) rfl (Nat.le_of_ble_eq_true rfl) (fun X hG hX => ?_)
  have hG : G TM X RX7 cX7_end 3 2 46 (some .int) := hG
  show J TM X 3 0 [some (aR 0), some (aI s), some (aI v)] [] μ0
  refine J.aload_n hG dX7_end_0 rfl rfl ?_
  refine J.iconst hG dX7_end_1 (by decide) ?_
  refine J.putI hG ciX7 rfl 0 0 rfl (Nat.le_of_ble_eq_true rfl) rfl fl_X7_75 rfl rfl dX7_end_2 ?_
  show J TM X 3 5 [some (aR 0), some (aI s), some (aI v)] [] (th μ0)
  rw [← hμ]
  have hB2 := hB
  obtain ⟨h1, h2, h3, h4, h5, h6⟩ := hB2
  refine J.aload_n hG dX7_end_5 rfl rfl ?_
  refine J.iload_n hG dX7_end_6 rfl rfl ?_
  refine J.callV hG (X7_isScale _ _ (by omega)) ok_X7_isScale ml_X7_159 rfl rfl rfl rfl (Nat.le_of_ble_eq_true rfl) ⟨Nat.le_of_ble_eq_true rfl, Nat.le_of_ble_eq_true rfl⟩ dX7_end_7 rfl (fun r1 μ1 hp1 => ?_)
  obtain ⟨rfl, rfl⟩ := hp1
  refine J.ifb_eq hG 40 dX7_end_10 rfl (fun h10 => ?_) (fun h10 => ?_)
  · refine J.iconst hG dX7_end_40 (by decide) ?_
    refine J.iret hG dX7_end_41 ?_
    rw [hX]; dsimp only
    exact ⟨by congr 2; try ((repeat' split) <;> first | rfl | (exfalso; omega) | omega), rfl⟩
  · have q5 := h5 s (by omega) (by omega)
    refine J.iload_n hG dX7_end_13 rfl rfl ?_
    refine J.iconst hG dX7_end_14 (by decide) ?_
    refine J.aload_n hG dX7_end_15 rfl rfl ?_
    refine J.getR hG ciX7 rfl 9 9 rfl (Nat.le_of_ble_eq_true rfl) rfl fl_X7_13 dX7_end_16 ?_
    refine J.iload_n hG dX7_end_19 rfl rfl ?_
    refine J.iald hG rfl (by omega) (by omega) dX7_end_20 ?_
    refine J.callS hG (X7_in _ _ _ _) ok_X7_in ml_X7_78 rfl (Nat.le_of_ble_eq_true rfl) ⟨Nat.le_of_ble_eq_true rfl, Nat.le_of_ble_eq_true rfl⟩ dX7_end_21 rfl (fun r1 μ1 hp1 => ?_)
    obtain ⟨rfl, rfl⟩ := hp1
    refine J.ifb_eq hG 40 dX7_end_24 rfl (fun h24 => ?_) (fun h24 => ?_)
    · refine J.iconst hG dX7_end_40 (by decide) ?_
      refine J.iret hG dX7_end_41 ?_
      rw [hX]; dsimp only
      exact ⟨by congr 2; try ((repeat' split) <;> first | rfl | (exfalso; omega) | omega), rfl⟩
    · refine J.aload_n hG dX7_end_27 rfl rfl ?_
      refine J.aload_n hG dX7_end_28 rfl rfl ?_
      refine J.getR hG ciX7 rfl 22 22 rfl (Nat.le_of_ble_eq_true rfl) rfl fl_X7_28 dX7_end_29 ?_
      refine J.iload_n hG dX7_end_32 rfl rfl ?_
      refine J.iload_n hG dX7_end_33 rfl rfl ?_
      refine J.callV hG (X7_endOf _ _ rfl _ _ (by omega) (by omega)) ok_X7_endOf ml_X7_167 rfl rfl rfl rfl (Nat.le_of_ble_eq_true rfl) ⟨Nat.le_of_ble_eq_true rfl, Nat.le_of_ble_eq_true rfl⟩ dX7_end_34 rfl (fun r1 μ1 hp1 => ?_)
      obtain ⟨rfl, rfl⟩ := hp1
      refine J.goto hG 41 dX7_end_37 rfl ?_
      refine J.iret hG dX7_end_41 ?_
      rw [hX]; dsimp only
      exact ⟨by congr 2; try ((repeat' split) <;> first | rfl | (exfalso; omega) | omega), rfl⟩

set_option maxRecDepth 100000 in
set_option maxHeartbeats 4000000 in
theorem X7_place (μ0 μ : Mem) (hμ : μ = th μ0) (hB : MB μ) (p : Int) : CT TM md_X7_place [aR 0, aI p] μ0 (fun rv μ1 => rv = some (aI (if 0 ≤ p ∧ p < μ 0 16 then μ 6 p else -1)) ∧ μ = μ1) := by
  refine CT.of (Nat.le_of_ble_eq_true rfl) (by decide) rfl (Nat.le_of_ble_eq_true rfl) (fun X hG hX => ?_)
  have hG : G TM X RX7 cX7_place 2 2 43 (some .int) := hG
  show J TM X 2 0 [some (aR 0), some (aI p)] [] μ0
  refine J.aload_n hG dX7_place_0 rfl rfl ?_
  refine J.iconst hG dX7_place_1 (by decide) ?_
  refine J.putI hG ciX7 rfl 0 0 rfl (Nat.le_of_ble_eq_true rfl) rfl fl_X7_75 rfl rfl dX7_place_2 ?_
  show J TM X 2 5 [some (aR 0), some (aI p)] [] (th μ0)
  rw [← hμ]
  have hB2 := hB
  obtain ⟨h1, h2, h3, h4, h5, h6⟩ := hB2
  refine J.aload_n hG dX7_place_5 rfl rfl ?_
  refine J.iload_n hG dX7_place_6 rfl rfl ?_
  refine J.callV hG (X7_isPlace _ _ (by omega)) ok_X7_isPlace ml_X7_177 rfl rfl rfl rfl (Nat.le_of_ble_eq_true rfl) ⟨Nat.le_of_ble_eq_true rfl, Nat.le_of_ble_eq_true rfl⟩ dX7_place_7 rfl (fun r1 μ1 hp1 => ?_)
  obtain ⟨rfl, rfl⟩ := hp1
  refine J.ifb_eq hG 22 dX7_place_10 rfl (fun h10 => ?_) (fun h10 => ?_)
  · refine J.iconst hG dX7_place_22 (by decide) ?_
    refine J.iret hG dX7_place_23 ?_
    rw [hX]; dsimp only
    exact ⟨by congr 2; try ((repeat' split) <;> first | rfl | (exfalso; omega) | omega), rfl⟩
  · refine J.aload_n hG dX7_place_13 rfl rfl ?_
    refine J.getR hG ciX7 rfl 13 13 rfl (Nat.le_of_ble_eq_true rfl) rfl fl_X7_25 dX7_place_14 ?_
    refine J.iload_n hG dX7_place_17 rfl rfl ?_
    refine J.iald hG rfl (by omega) (by omega) dX7_place_18 ?_
    refine J.goto hG 23 dX7_place_19 rfl ?_
    refine J.iret hG dX7_place_23 ?_
    rw [hX]; dsimp only
    exact ⟨by congr 2; try ((repeat' split) <;> first | rfl | (exfalso; omega) | omega), rfl⟩

set_option maxRecDepth 100000 in
set_option maxHeartbeats 4000000 in
theorem X7_unlawfulOn (μ : Mem) (hB : MB μ) (c : Nat) (hR : RB μ c) (l : Int) (hl : 0 ≤ l ∧ l < μ 0 15) : CT TM md_X7_unlawfulOn [aR 0, aR c, aI l] μ (fun rv μ1 => rv = some (aI (mU μ c l)) ∧ μ = μ1) := by
  refine CT.of (Nat.le_of_ble_eq_true rfl) (by decide) rfl (Nat.le_of_ble_eq_true rfl) (fun X hG hX => ?_)
  have hG : G TM X RX7 cX7_unlawfulOn 4 3 69 (some .int) := hG
  show J TM X 4 0 [some (aR 0), some (aR c), some (aI l), none] [] μ
  have hB2 := hB
  obtain ⟨h1, h2, h3, h4, h5, h6⟩ := hB2
  have lp : ∀ (k : Nat) (s : Int), 0 ≤ s → s + k = μ 0 14 → (fs3 (fun s => mE μ c l s) k s = mU μ c l) → J TM X 4 2 [some (aR 0), some (aR c), some (aI l), some (aI s)] [] μ := by
    intro k
    induction k with
    | zero =>
      intro s  i0 i1 i2
      simp only [fs3] at i2
      refine J.iload_n hG dX7_unlawfulOn_2 rfl rfl ?_
      refine J.aload_n hG dX7_unlawfulOn_3 rfl rfl ?_
      refine J.getI hG ciX7 rfl 14 14 rfl (Nat.le_of_ble_eq_true rfl) rfl fl_X7_141 dX7_unlawfulOn_4 ?_
      refine J.icmp_ge hG 29 dX7_unlawfulOn_7 rfl (fun h7 => ?_) (fun h7 => absurd h7 (by omega))
      refine J.bipush hG dX7_unlawfulOn_29 (by decide) (by decide) ?_
      refine J.iret hG dX7_unlawfulOn_31 ?_
      rw [hX]; dsimp only
      exact ⟨by rw [← i2], rfl⟩
    | succ k ih =>
      intro s  i0 i1 i2
      rw [fs3] at i2
      have q5 := h5 s (by omega) (by omega)
      have q6 := hR.2 l s hl.1 hl.2 (by omega) (by omega)
      refine J.iload_n hG dX7_unlawfulOn_2 rfl rfl ?_
      refine J.aload_n hG dX7_unlawfulOn_3 rfl rfl ?_
      refine J.getI hG ciX7 rfl 14 14 rfl (Nat.le_of_ble_eq_true rfl) rfl fl_X7_141 dX7_unlawfulOn_4 ?_
      refine J.icmp_ge hG 29 dX7_unlawfulOn_7 rfl (fun h7 => absurd h7 (by omega)) (fun h7 => ?_)
      refine J.aload_n hG dX7_unlawfulOn_10 rfl rfl ?_
      refine J.aload_n hG dX7_unlawfulOn_11 rfl rfl ?_
      refine J.iload_n hG dX7_unlawfulOn_12 rfl rfl ?_
      refine J.iload_n hG dX7_unlawfulOn_13 rfl rfl ?_
      refine J.callV hG (X7_endIn _ _ hR.1.1 _ _ (by omega) (by omega) (by omega)) ok_X7_endIn ml_X7_174 rfl rfl rfl rfl (Nat.le_of_ble_eq_true rfl) ⟨Nat.le_of_ble_eq_true rfl, Nat.le_of_ble_eq_true rfl⟩ dX7_unlawfulOn_14 rfl (fun r1 μ1 hp1 => ?_)
      obtain ⟨rfl, rfl⟩ := hp1
      refine J.iconst hG dX7_unlawfulOn_17 (by decide) ?_
      refine J.icmp_ne hG 23 dX7_unlawfulOn_18 rfl (fun h18 => ?_) (fun h18 => ?_)
      · refine J.iinc hG dX7_unlawfulOn_23 (Nat.le_of_ble_eq_true rfl) rfl (fun _ => (by omega)) ?_
        refine J.goto hG 2 dX7_unlawfulOn_26 rfl ?_
        rw [if_neg h18] at i2
        exact ih (s + 1) (by omega) (by omega) i2
      · refine J.iload_n hG dX7_unlawfulOn_21 rfl rfl ?_
        refine J.iret hG dX7_unlawfulOn_22 ?_
        rw [hX]; dsimp only
        rw [if_pos h18] at i2
        exact ⟨by rw [← i2], rfl⟩
  refine J.iconst hG dX7_unlawfulOn_0 (by decide) ?_
  refine J.istore_n hG dX7_unlawfulOn_1 rfl (Nat.le_of_ble_eq_true rfl) ?_
  exact lp (μ 0 14).toNat 0 (Int.le_refl _) (by omega) rfl

set_option maxRecDepth 100000 in
set_option maxHeartbeats 4000000 in
theorem X7_unlawful (μ : Mem) (hB : MB μ) (c : Nat) (hR : RB μ c) : CT TM md_X7_unlawful [aR 0, aR c] μ (fun rv μ1 => rv = some (aI (mBits μ c)) ∧ μ = μ1) := by
  refine CT.of (Nat.le_of_ble_eq_true rfl) (by decide) rfl (Nat.le_of_ble_eq_true rfl) (fun X hG hX => ?_)
  have hG : G TM X RX7 cX7_unlawful 4 4 92 (some .int) := hG
  show J TM X 4 0 [some (aR 0), some (aR c), none, none] [] μ
  have hB2 := hB
  obtain ⟨h1, h2, h3, h4, h5, h6⟩ := hB2
  have lp : ∀ (k : Nat) (l : Int) (a : Int), 0 ≤ l → l + k = μ 0 15 → (0 ≤ a ∧ a < p2 l) → (a + smf (fun l => if mU μ c l = -9 then 0 else p2 l) l k = mBits μ c) → J TM X 4 4 [some (aR 0), some (aR c), some (aI a), some (aI l)] [] μ := by
    intro k
    induction k with
    | zero =>
      intro l a i0 i1 i2 i3
      simp only [smf] at i3
      refine J.iload_n hG dX7_unlawful_4 rfl rfl ?_
      refine J.aload_n hG dX7_unlawful_5 rfl rfl ?_
      refine J.getI hG ciX7 rfl 15 15 rfl (Nat.le_of_ble_eq_true rfl) rfl fl_X7_144 dX7_unlawful_6 ?_
      refine J.icmp_ge hG 39 dX7_unlawful_9 rfl (fun h9 => ?_) (fun h9 => absurd h9 (by omega))
      refine J.iload_n hG dX7_unlawful_39 rfl rfl ?_
      refine J.iret hG dX7_unlawful_40 ?_
      rw [hX]; dsimp only
      exact ⟨by rw [← i3, Int.add_zero], rfl⟩
    | succ k ih =>
      intro l a i0 i1 i2 i3
      rw [smf] at i3
      have hp := p2_succ l (by omega)
      have hq := p2_bound l
      refine J.iload_n hG dX7_unlawful_4 rfl rfl ?_
      refine J.aload_n hG dX7_unlawful_5 rfl rfl ?_
      refine J.getI hG ciX7 rfl 15 15 rfl (Nat.le_of_ble_eq_true rfl) rfl fl_X7_144 dX7_unlawful_6 ?_
      refine J.icmp_ge hG 39 dX7_unlawful_9 rfl (fun h9 => absurd h9 (by omega)) (fun h9 => ?_)
      refine J.iload_n hG dX7_unlawful_12 rfl rfl ?_
      refine J.aload_n hG dX7_unlawful_13 rfl rfl ?_
      refine J.aload_n hG dX7_unlawful_14 rfl rfl ?_
      refine J.iload_n hG dX7_unlawful_15 rfl rfl ?_
      refine J.callV hG (X7_unlawfulOn _ hB _ hR _ (by omega)) ok_X7_unlawfulOn ml_X7_190 rfl rfl rfl rfl (Nat.le_of_ble_eq_true rfl) ⟨Nat.le_of_ble_eq_true rfl, Nat.le_of_ble_eq_true rfl⟩ dX7_unlawful_16 rfl (fun r1 μ1 hp1 => ?_)
      obtain ⟨rfl, rfl⟩ := hp1
      refine J.bipush hG dX7_unlawful_19 (by decide) (by decide) ?_
      refine J.icmp_ne hG 28 dX7_unlawful_21 rfl (fun h21 => ?_) (fun h21 => ?_)
      · refine J.iconst hG dX7_unlawful_28 (by decide) ?_
        refine J.iload_n hG dX7_unlawful_29 rfl rfl ?_
        refine J.ishl hG (p2 l) dX7_unlawful_30 (fun _ _ => (by exact shl_p2 l (by omega))) ?_
        refine J.ior hG (a + p2 l) dX7_unlawful_31 (fun _ _ => (by exact or_p2 a l (by omega) i2.1 i2.2)) ?_
        refine J.istore_n hG dX7_unlawful_32 rfl (Nat.le_of_ble_eq_true rfl) ?_
        refine J.iinc hG dX7_unlawful_33 (Nat.le_of_ble_eq_true rfl) rfl (fun _ => (by omega)) ?_
        refine J.goto hG 4 dX7_unlawful_36 rfl ?_
        rw [if_neg h21] at i3
        exact ih (l + 1) _ (by omega) (by omega) (by omega) (by omega)
      · refine J.iconst hG dX7_unlawful_24 (by decide) ?_
        refine J.goto hG 31 dX7_unlawful_25 rfl ?_
        refine J.ior hG (a) dX7_unlawful_31 (fun _ _ => (by exact or_0 a (by omega))) ?_
        refine J.istore_n hG dX7_unlawful_32 rfl (Nat.le_of_ble_eq_true rfl) ?_
        refine J.iinc hG dX7_unlawful_33 (Nat.le_of_ble_eq_true rfl) rfl (fun _ => (by omega)) ?_
        refine J.goto hG 4 dX7_unlawful_36 rfl ?_
        rw [if_pos h21] at i3
        exact ih (l + 1) _ (by omega) (by omega) (by omega) (by omega)
  refine J.iconst hG dX7_unlawful_0 (by decide) ?_
  refine J.istore_n hG dX7_unlawful_1 rfl (Nat.le_of_ble_eq_true rfl) ?_
  refine J.iconst hG dX7_unlawful_2 (by decide) ?_
  refine J.istore_n hG dX7_unlawful_3 rfl (Nat.le_of_ble_eq_true rfl) ?_
  exact lp (μ 0 15).toNat 0 0 (Int.le_refl _) (by omega) (by decide) (by unfold mBits; omega)

set_option maxRecDepth 100000 in
set_option maxHeartbeats 4000000 in
theorem X7_ones (μ : Mem) (x : Int) (hx : 0 ≤ x ∧ x ≤ 15) : CT TM md_X7_ones [aI x] μ (fun rv μ1 => rv = some (aI (pc4 x)) ∧ μ = μ1) := by
  refine CT.of (Nat.le_of_ble_eq_true rfl) (by decide) rfl (Nat.le_of_ble_eq_true rfl) (fun X hG hX => ?_)
  have hG : G TM X RX7 cX7_ones 3 0 0 (some .int) := hG
  show J TM X 3 0 [some (aI x), none, none] [] μ
  have lp : ∀ (k : Nat) (i : Int) (a : Int), 0 ≤ i → i + k = 4 → (0 ≤ a ∧ a ≤ i) → (a + smf (fun k => x / p2 k % 2) i k = pc4 x) → J TM X 3 4 [some (aI x), some (aI a), some (aI i)] [] μ := by
    intro k
    induction k with
    | zero =>
      intro i a i0 i1 i2 i3
      simp only [smf] at i3
      refine J.iload_n hG dX7_ones_4 rfl rfl ?_
      refine J.iconst hG dX7_ones_5 (by decide) ?_
      refine J.icmp_ge hG 23 dX7_ones_6 rfl (fun h6 => ?_) (fun h6 => absurd h6 (by omega))
      refine J.iload_n hG dX7_ones_23 rfl rfl ?_
      refine J.iret hG dX7_ones_24 ?_
      rw [hX]; dsimp only
      exact ⟨by rw [← i3, Int.add_zero], rfl⟩
    | succ k ih =>
      intro i a i0 i1 i2 i3
      rw [smf] at i3
      have hr : 0 ≤ x / p2 i % 2 ∧ x / p2 i % 2 < 2 := ⟨Int.emod_nonneg _ (by decide), Int.emod_lt_of_pos _ (by decide)⟩
      refine J.iload_n hG dX7_ones_4 rfl rfl ?_
      refine J.iconst hG dX7_ones_5 (by decide) ?_
      refine J.icmp_ge hG 23 dX7_ones_6 rfl (fun h6 => absurd h6 (by omega)) (fun h6 => ?_)
      refine J.iload_n hG dX7_ones_9 rfl rfl ?_
      refine J.iload_n hG dX7_ones_10 rfl rfl ?_
      refine J.iload_n hG dX7_ones_11 rfl rfl ?_
      refine J.ishr hG ((Int32.ofInt x >>> (Int32.ofInt i &&& 31)).toInt) dX7_ones_12 (fun _ _ => (by rfl)) ?_
      refine J.iconst hG dX7_ones_13 (by decide) ?_
      refine J.iand hG (x / p2 i % 2) dX7_ones_14 (fun _ _ => (by exact shr_1 x i hx (by omega))) ?_
      refine J.iadd hG dX7_ones_15 (fun _ _ => (by omega)) ?_
      refine J.istore_n hG dX7_ones_16 rfl (Nat.le_of_ble_eq_true rfl) ?_
      refine J.iinc hG dX7_ones_17 (Nat.le_of_ble_eq_true rfl) rfl (fun _ => (by omega)) ?_
      refine J.goto hG 4 dX7_ones_20 rfl ?_
      exact ih (i + 1) _ (by omega) (by omega) (by omega) (by omega)
  refine J.iconst hG dX7_ones_0 (by decide) ?_
  refine J.istore_n hG dX7_ones_1 rfl (Nat.le_of_ble_eq_true rfl) ?_
  refine J.iconst hG dX7_ones_2 (by decide) ?_
  refine J.istore_n hG dX7_ones_3 rfl (Nat.le_of_ble_eq_true rfl) ?_
  exact lp 4 0 0 (Int.le_refl _) (by omega) (by omega) (by rw [Int.zero_add]; show x / 1 % 2 + (x / 2 % 2 + (x / 4 % 2 + (x / 8 % 2 + 0))) = pc4 x; unfold pc4; omega)

set_option maxRecDepth 100000 in
set_option maxHeartbeats 4000000 in
theorem X7_countEnds (μ : Mem) (hB : MB μ) (l e : Int) (hl : 0 ≤ l ∧ l < μ 0 15) : CT TM md_X7_countEnds [aR 0, aI l, aI e] μ (fun rv μ1 => rv = some (aI (mC μ e l)) ∧ μ = μ1) := by
  refine CT.of (Nat.le_of_ble_eq_true rfl) (by decide) rfl (Nat.le_of_ble_eq_true rfl) (fun X hG hX => ?_)
  have hG : G TM X RX7 cX7_countEnds 5 3 69 (some .int) := hG
  show J TM X 5 0 [some (aR 0), some (aI l), some (aI e), none, none] [] μ
  have hB2 := hB
  obtain ⟨h1, h2, h3, h4, h5, h6⟩ := hB2
  have lp : ∀ (k : Nat) (s : Int) (a : Int), 0 ≤ s → s + k = μ 0 14 → (0 ≤ a ∧ a ≤ s) → (a + smf (fun s => if mE μ 7 l s = e then 1 else 0) s k = mC μ e l) → J TM X 5 5 [some (aR 0), some (aI l), some (aI e), some (aI a), some (aI s)] [] μ := by
    intro k
    induction k with
    | zero =>
      intro s a i0 i1 i2 i3
      simp only [smf] at i3
      refine J.iload hG dX7_countEnds_5 rfl ?_
      refine J.aload_n hG dX7_countEnds_7 rfl rfl ?_
      refine J.getI hG ciX7 rfl 14 14 rfl (Nat.le_of_ble_eq_true rfl) rfl fl_X7_141 dX7_countEnds_8 ?_
      refine J.icmp_ge hG 43 dX7_countEnds_11 rfl (fun h11 => ?_) (fun h11 => absurd h11 (by omega))
      refine J.iload_n hG dX7_countEnds_43 rfl rfl ?_
      refine J.iret hG dX7_countEnds_44 ?_
      rw [hX]; dsimp only
      exact ⟨by rw [← i3, Int.add_zero], rfl⟩
    | succ k ih =>
      intro s a i0 i1 i2 i3
      rw [smf] at i3
      have q5 := h5 s (by omega) (by omega)
      have q6 := h6 l s hl.1 hl.2 (by omega) (by omega)
      refine J.iload hG dX7_countEnds_5 rfl ?_
      refine J.aload_n hG dX7_countEnds_7 rfl rfl ?_
      refine J.getI hG ciX7 rfl 14 14 rfl (Nat.le_of_ble_eq_true rfl) rfl fl_X7_141 dX7_countEnds_8 ?_
      refine J.icmp_ge hG 43 dX7_countEnds_11 rfl (fun h11 => absurd h11 (by omega)) (fun h11 => ?_)
      refine J.iload_n hG dX7_countEnds_14 rfl rfl ?_
      refine J.aload_n hG dX7_countEnds_15 rfl rfl ?_
      refine J.aload_n hG dX7_countEnds_16 rfl rfl ?_
      refine J.getR hG ciX7 rfl 22 22 rfl (Nat.le_of_ble_eq_true rfl) rfl fl_X7_28 dX7_countEnds_17 ?_
      refine J.iload_n hG dX7_countEnds_20 rfl rfl ?_
      refine J.iload hG dX7_countEnds_21 rfl ?_
      refine J.callV hG (X7_endIn _ _ rfl _ _ (by omega) (by omega) (by omega)) ok_X7_endIn ml_X7_174 rfl rfl rfl rfl (Nat.le_of_ble_eq_true rfl) ⟨Nat.le_of_ble_eq_true rfl, Nat.le_of_ble_eq_true rfl⟩ dX7_countEnds_23 rfl (fun r1 μ1 hp1 => ?_)
      obtain ⟨rfl, rfl⟩ := hp1
      refine J.iload_n hG dX7_countEnds_26 rfl rfl ?_
      refine J.icmp_ne hG 34 dX7_countEnds_27 rfl (fun h27 => ?_) (fun h27 => ?_)
      · refine J.iconst hG dX7_countEnds_34 (by decide) ?_
        refine J.iadd hG dX7_countEnds_35 (fun _ _ => (by omega)) ?_
        refine J.istore_n hG dX7_countEnds_36 rfl (Nat.le_of_ble_eq_true rfl) ?_
        refine J.iinc hG dX7_countEnds_37 (Nat.le_of_ble_eq_true rfl) rfl (fun _ => (by omega)) ?_
        refine J.goto hG 5 dX7_countEnds_40 rfl ?_
        rw [if_neg h27] at i3
        exact ih (s + 1) _ (by omega) (by omega) (by omega) (by omega)
      · refine J.iconst hG dX7_countEnds_30 (by decide) ?_
        refine J.goto hG 35 dX7_countEnds_31 rfl ?_
        refine J.iadd hG dX7_countEnds_35 (fun _ _ => (by omega)) ?_
        refine J.istore_n hG dX7_countEnds_36 rfl (Nat.le_of_ble_eq_true rfl) ?_
        refine J.iinc hG dX7_countEnds_37 (Nat.le_of_ble_eq_true rfl) rfl (fun _ => (by omega)) ?_
        refine J.goto hG 5 dX7_countEnds_40 rfl ?_
        rw [if_pos h27] at i3
        exact ih (s + 1) _ (by omega) (by omega) (by omega) (by omega)
  refine J.iconst hG dX7_countEnds_0 (by decide) ?_
  refine J.istore_n hG dX7_countEnds_1 rfl (Nat.le_of_ble_eq_true rfl) ?_
  refine J.iconst hG dX7_countEnds_2 (by decide) ?_
  refine J.istore hG dX7_countEnds_3 (Nat.le_of_ble_eq_true rfl) ?_
  exact lp (μ 0 14).toNat 0 0 (Int.le_refl _) (by omega) (by omega) (by unfold mC; omega)

set_option maxRecDepth 100000 in
set_option maxHeartbeats 4000000 in
theorem X7_inDrawer (μ : Mem) (hB : MB μ) : CT TM md_X7_inDrawer [aR 0] μ (fun rv μ1 => rv = some (aI (mDr μ)) ∧ μ = μ1) := by
  refine CT.of (Nat.le_of_ble_eq_true rfl) (by decide) rfl (Nat.le_of_ble_eq_true rfl) (fun X hG hX => ?_)
  have hG : G TM X RX7 cX7_inDrawer 3 4 93 (some .int) := hG
  show J TM X 3 0 [some (aR 0), none, none] [] μ
  have hB2 := hB
  obtain ⟨h1, h2, h3, h4, h5, h6⟩ := hB2
  have lp : ∀ (k : Nat) (l : Int) (a : Int), 0 ≤ l → l + k = μ 0 15 → (0 ≤ a ∧ a ≤ 4 * l) → (a + smf (fun l => mC μ 2 l) l k = mDr μ) → J TM X 3 4 [some (aR 0), some (aI a), some (aI l)] [] μ := by
    intro k
    induction k with
    | zero =>
      intro l a i0 i1 i2 i3
      simp only [smf] at i3
      refine J.iload_n hG dX7_inDrawer_4 rfl rfl ?_
      refine J.aload_n hG dX7_inDrawer_5 rfl rfl ?_
      refine J.getI hG ciX7 rfl 15 15 rfl (Nat.le_of_ble_eq_true rfl) rfl fl_X7_144 dX7_inDrawer_6 ?_
      refine J.icmp_ge hG 27 dX7_inDrawer_9 rfl (fun h9 => ?_) (fun h9 => absurd h9 (by omega))
      refine J.iload_n hG dX7_inDrawer_27 rfl rfl ?_
      refine J.iret hG dX7_inDrawer_28 ?_
      rw [hX]; dsimp only
      exact ⟨by rw [← i3, Int.add_zero], rfl⟩
    | succ k ih =>
      intro l a i0 i1 i2 i3
      rw [smf] at i3
      have hq := mC_bound μ 2 l h1
      refine J.iload_n hG dX7_inDrawer_4 rfl rfl ?_
      refine J.aload_n hG dX7_inDrawer_5 rfl rfl ?_
      refine J.getI hG ciX7 rfl 15 15 rfl (Nat.le_of_ble_eq_true rfl) rfl fl_X7_144 dX7_inDrawer_6 ?_
      refine J.icmp_ge hG 27 dX7_inDrawer_9 rfl (fun h9 => absurd h9 (by omega)) (fun h9 => ?_)
      refine J.iload_n hG dX7_inDrawer_12 rfl rfl ?_
      refine J.aload_n hG dX7_inDrawer_13 rfl rfl ?_
      refine J.iload_n hG dX7_inDrawer_14 rfl rfl ?_
      refine J.iconst hG dX7_inDrawer_15 (by decide) ?_
      refine J.callV hG (X7_countEnds _ hB _ _ (by omega)) ok_X7_countEnds ml_X7_204 rfl rfl rfl rfl (Nat.le_of_ble_eq_true rfl) ⟨Nat.le_of_ble_eq_true rfl, Nat.le_of_ble_eq_true rfl⟩ dX7_inDrawer_16 rfl (fun r1 μ1 hp1 => ?_)
      obtain ⟨rfl, rfl⟩ := hp1
      refine J.iadd hG dX7_inDrawer_19 (fun _ _ => (by omega)) ?_
      refine J.istore_n hG dX7_inDrawer_20 rfl (Nat.le_of_ble_eq_true rfl) ?_
      refine J.iinc hG dX7_inDrawer_21 (Nat.le_of_ble_eq_true rfl) rfl (fun _ => (by omega)) ?_
      refine J.goto hG 4 dX7_inDrawer_24 rfl ?_
      exact ih (l + 1) _ (by omega) (by omega) (by omega) (by omega)
  refine J.iconst hG dX7_inDrawer_0 (by decide) ?_
  refine J.istore_n hG dX7_inDrawer_1 rfl (Nat.le_of_ble_eq_true rfl) ?_
  refine J.iconst hG dX7_inDrawer_2 (by decide) ?_
  refine J.istore_n hG dX7_inDrawer_3 rfl (Nat.le_of_ble_eq_true rfl) ?_
  exact lp (μ 0 15).toNat 0 0 (Int.le_refl _) (by omega) (by omega) (by unfold mDr; omega)

set_option maxRecDepth 100000 in
set_option maxHeartbeats 4000000 in
theorem X7_now (μ0 μ : Mem) (hμ : μ = th μ0) (hB : MB μ) (w : Int) : CT TM md_X7_now [aR 0, aI w] μ0 (fun rv μ1 => rv = some (aI (if w = 0 then μ 7 24 else if w = 1 then mBits μ 7 else if w = 2 then mDr μ else if w = 3 then (if μ 0 17 < mDr μ then 1 else 0) else if w = 4 then μ 7 25 else if w = 5 then μ 0 27 else -1)) ∧ μ = μ1) := by
  refine CT.of (Nat.le_of_ble_eq_true rfl) (by decide) rfl (Nat.le_of_ble_eq_true rfl) (fun X hG hX => ?_)
  have hG : G TM X RX7 cX7_now 2 5 115 (some .int) := hG
  show J TM X 2 0 [some (aR 0), some (aI w)] [] μ0
  refine J.aload_n hG dX7_now_0 rfl rfl ?_
  refine J.iconst hG dX7_now_1 (by decide) ?_
  refine J.putI hG ciX7 rfl 0 0 rfl (Nat.le_of_ble_eq_true rfl) rfl fl_X7_75 rfl rfl dX7_now_2 ?_
  show J TM X 2 5 [some (aR 0), some (aI w)] [] (th μ0)
  rw [← hμ]
  have hB2 := hB
  obtain ⟨h1, h2, h3, h4, h5, h6⟩ := hB2
  refine J.iload_n hG dX7_now_5 rfl rfl ?_
  refine J.iconst hG dX7_now_6 (by decide) ?_
  refine J.iconst hG dX7_now_7 (by decide) ?_
  refine J.callS hG (X7_in _ _ _ _) ok_X7_in ml_X7_78 rfl (Nat.le_of_ble_eq_true rfl) ⟨Nat.le_of_ble_eq_true rfl, Nat.le_of_ble_eq_true rfl⟩ dX7_now_8 rfl (fun r1 μ1 hp1 => ?_)
  obtain ⟨rfl, rfl⟩ := hp1
  refine J.ifb_ne hG 16 dX7_now_11 rfl (fun h11 => ?_) (fun h11 => ?_)
  · refine J.iload_n hG dX7_now_16 rfl rfl ?_
    refine J.iconst hG dX7_now_17 (by decide) ?_
    refine J.icmp_ge hG 56 dX7_now_18 rfl (fun h18 => ?_) (fun h18 => ?_)
    · refine J.iload_n hG dX7_now_56 rfl rfl ?_
      refine J.iconst hG dX7_now_57 (by decide) ?_
      refine J.icmp_ne hG 80 dX7_now_58 rfl (fun h58 => ?_) (fun h58 => ?_)
      · refine J.iload_n hG dX7_now_80 rfl rfl ?_
        refine J.iconst hG dX7_now_81 (by decide) ?_
        refine J.icmp_ne hG 95 dX7_now_82 rfl (fun h82 => ?_) (fun h82 => ?_)
        · refine J.aload_n hG dX7_now_95 rfl rfl ?_
          refine J.getI hG ciX7 rfl 27 27 rfl (Nat.le_of_ble_eq_true rfl) rfl fl_X7_150 dX7_now_96 ?_
          refine J.iret hG dX7_now_99 ?_
          rw [hX]; dsimp only
          exact ⟨by congr 2; try ((repeat' split) <;> first | rfl | (exfalso; omega) | omega), rfl⟩
        · refine J.aload_n hG dX7_now_85 rfl rfl ?_
          refine J.getR hG ciX7 rfl 22 22 rfl (Nat.le_of_ble_eq_true rfl) rfl fl_X7_28 dX7_now_86 ?_
          refine J.bipush hG dX7_now_89 (by decide) (by decide) ?_
          refine J.iald hG rfl (by omega) (by omega) dX7_now_91 ?_
          refine J.goto hG 99 dX7_now_92 rfl ?_
          refine J.iret hG dX7_now_99 ?_
          rw [hX]; dsimp only
          exact ⟨by congr 2; try ((repeat' split) <;> first | rfl | (exfalso; omega) | omega), rfl⟩
      · refine J.aload_n hG dX7_now_61 rfl rfl ?_
        refine J.callV hG (X7_inDrawer _ hB) ok_X7_inDrawer ml_X7_207 rfl rfl rfl rfl (Nat.le_of_ble_eq_true rfl) ⟨Nat.le_of_ble_eq_true rfl, Nat.le_of_ble_eq_true rfl⟩ dX7_now_62 rfl (fun r1 μ1 hp1 => ?_)
        obtain ⟨rfl, rfl⟩ := hp1
        refine J.aload_n hG dX7_now_65 rfl rfl ?_
        refine J.getI hG ciX7 rfl 17 17 rfl (Nat.le_of_ble_eq_true rfl) rfl fl_X7_71 dX7_now_66 ?_
        refine J.icmp_le hG 76 dX7_now_69 rfl (fun h69 => ?_) (fun h69 => ?_)
        · refine J.iconst hG dX7_now_76 (by decide) ?_
          refine J.goto hG 99 dX7_now_77 rfl ?_
          refine J.iret hG dX7_now_99 ?_
          rw [hX]; dsimp only
          exact ⟨by congr 2; try ((repeat' split) <;> first | rfl | (exfalso; omega) | omega), rfl⟩
        · refine J.iconst hG dX7_now_72 (by decide) ?_
          refine J.goto hG 99 dX7_now_73 rfl ?_
          refine J.iret hG dX7_now_99 ?_
          rw [hX]; dsimp only
          exact ⟨by congr 2; try ((repeat' split) <;> first | rfl | (exfalso; omega) | omega), rfl⟩
    · refine J.iload_n hG dX7_now_21 rfl rfl ?_
      refine J.if_ne hG 35 dX7_now_22 rfl (fun h22 => ?_) (fun h22 => ?_)
      · refine J.iload_n hG dX7_now_35 rfl rfl ?_
        refine J.iconst hG dX7_now_36 (by decide) ?_
        refine J.icmp_ne hG 51 dX7_now_37 rfl (fun h37 => ?_) (fun h37 => ?_)
        · refine J.aload_n hG dX7_now_51 rfl rfl ?_
          refine J.callV hG (X7_inDrawer _ hB) ok_X7_inDrawer ml_X7_207 rfl rfl rfl rfl (Nat.le_of_ble_eq_true rfl) ⟨Nat.le_of_ble_eq_true rfl, Nat.le_of_ble_eq_true rfl⟩ dX7_now_52 rfl (fun r1 μ1 hp1 => ?_)
          obtain ⟨rfl, rfl⟩ := hp1
          refine J.iret hG dX7_now_55 ?_
          rw [hX]; dsimp only
          exact ⟨by congr 2; try ((repeat' split) <;> first | rfl | (exfalso; omega) | omega), rfl⟩
        · refine J.aload_n hG dX7_now_40 rfl rfl ?_
          refine J.aload_n hG dX7_now_41 rfl rfl ?_
          refine J.getR hG ciX7 rfl 22 22 rfl (Nat.le_of_ble_eq_true rfl) rfl fl_X7_28 dX7_now_42 ?_
          refine J.callV hG (X7_unlawful _ hB _ (MB_RB hB)) ok_X7_unlawful ml_X7_197 rfl rfl rfl rfl (Nat.le_of_ble_eq_true rfl) ⟨Nat.le_of_ble_eq_true rfl, Nat.le_of_ble_eq_true rfl⟩ dX7_now_45 rfl (fun r1 μ1 hp1 => ?_)
          obtain ⟨rfl, rfl⟩ := hp1
          refine J.goto hG 55 dX7_now_48 rfl ?_
          refine J.iret hG dX7_now_55 ?_
          rw [hX]; dsimp only
          exact ⟨by congr 2; try ((repeat' split) <;> first | rfl | (exfalso; omega) | omega), rfl⟩
      · refine J.aload_n hG dX7_now_25 rfl rfl ?_
        refine J.getR hG ciX7 rfl 22 22 rfl (Nat.le_of_ble_eq_true rfl) rfl fl_X7_28 dX7_now_26 ?_
        refine J.bipush hG dX7_now_29 (by decide) (by decide) ?_
        refine J.iald hG rfl (by omega) (by omega) dX7_now_31 ?_
        refine J.goto hG 55 dX7_now_32 rfl ?_
        refine J.iret hG dX7_now_55 ?_
        rw [hX]; dsimp only
        exact ⟨by congr 2; try ((repeat' split) <;> first | rfl | (exfalso; omega) | omega), rfl⟩
  · refine J.iconst hG dX7_now_14 (by decide) ?_
    refine J.iret hG dX7_now_15 ?_
    rw [hX]; dsimp only
    exact ⟨by congr 2; try ((repeat' split) <;> first | rfl | (exfalso; omega) | omega), rfl⟩

set_option maxRecDepth 100000 in
set_option maxHeartbeats 4000000 in
theorem X7_isLaw (μ : Mem) (hB : MB μ) (s w t : Int) : CT TM md_X7_isLaw [aR 0, aI s, aI w, aI t] μ (fun rv μ1 => rv = some (aI (if (0 ≤ s ∧ s < μ 0 14) ∧ (0 ≤ w ∧ w ≤ 3) ∧ (1 ≤ t ∧ t ≤ μ 2 s) then 1 else 0)) ∧ μ = μ1) := by
  refine CT.of (Nat.le_of_ble_eq_true rfl) (by decide) rfl (Nat.le_of_ble_eq_true rfl) (fun X hG hX => ?_)
  have hG : G TM X RX7 cX7_isLaw 4 2 43 (some .boolean) := hG
  show J TM X 4 0 [some (aR 0), some (aI s), some (aI w), some (aI t)] [] μ
  have hB2 := hB
  obtain ⟨h1, h2, h3, h4, h5, h6⟩ := hB2
  refine J.aload_n hG dX7_isLaw_0 rfl rfl ?_
  refine J.iload_n hG dX7_isLaw_1 rfl rfl ?_
  refine J.callV hG (X7_isScale _ _ (by omega)) ok_X7_isScale ml_X7_159 rfl rfl rfl rfl (Nat.le_of_ble_eq_true rfl) ⟨Nat.le_of_ble_eq_true rfl, Nat.le_of_ble_eq_true rfl⟩ dX7_isLaw_2 rfl (fun r1 μ1 hp1 => ?_)
  obtain ⟨rfl, rfl⟩ := hp1
  refine J.ifb_eq hG 35 dX7_isLaw_5 rfl (fun h5 => ?_) (fun h5 => ?_)
  · refine J.iconst hG dX7_isLaw_35 (by decide) ?_
    refine J.zret hG (by first | exact Or.inl rfl | exact Or.inr rfl | assumption | (split <;> first | exact Or.inl rfl | exact Or.inr rfl)) dX7_isLaw_36 ?_
    rw [hX]; dsimp only
    exact ⟨by congr 2; first | (rw [if_pos (by omega)]; done) | (rw [if_neg (by omega)]; done), rfl⟩
  · refine J.iload_n hG dX7_isLaw_8 rfl rfl ?_
    refine J.iconst hG dX7_isLaw_9 (by decide) ?_
    refine J.iconst hG dX7_isLaw_10 (by decide) ?_
    refine J.callS hG (X7_in _ _ _ _) ok_X7_in ml_X7_78 rfl (Nat.le_of_ble_eq_true rfl) ⟨Nat.le_of_ble_eq_true rfl, Nat.le_of_ble_eq_true rfl⟩ dX7_isLaw_11 rfl (fun r1 μ1 hp1 => ?_)
    obtain ⟨rfl, rfl⟩ := hp1
    refine J.ifb_eq hG 35 dX7_isLaw_14 rfl (fun h14 => ?_) (fun h14 => ?_)
    · refine J.iconst hG dX7_isLaw_35 (by decide) ?_
      refine J.zret hG (by first | exact Or.inl rfl | exact Or.inr rfl | assumption | (split <;> first | exact Or.inl rfl | exact Or.inr rfl)) dX7_isLaw_36 ?_
      rw [hX]; dsimp only
      exact ⟨by congr 2; first | (rw [if_pos (by omega)]; done) | (rw [if_neg (by omega)]; done), rfl⟩
    · refine J.iload_n hG dX7_isLaw_17 rfl rfl ?_
      refine J.iconst hG dX7_isLaw_18 (by decide) ?_
      refine J.aload_n hG dX7_isLaw_19 rfl rfl ?_
      refine J.getR hG ciX7 rfl 9 9 rfl (Nat.le_of_ble_eq_true rfl) rfl fl_X7_13 dX7_isLaw_20 ?_
      refine J.iload_n hG dX7_isLaw_23 rfl rfl ?_
      refine J.iald hG rfl (by omega) (by omega) dX7_isLaw_24 ?_
      refine J.callS hG (X7_in _ _ _ _) ok_X7_in ml_X7_78 rfl (Nat.le_of_ble_eq_true rfl) ⟨Nat.le_of_ble_eq_true rfl, Nat.le_of_ble_eq_true rfl⟩ dX7_isLaw_25 rfl (fun r1 μ1 hp1 => ?_)
      obtain ⟨rfl, rfl⟩ := hp1
      refine J.ifb_eq hG 35 dX7_isLaw_28 rfl (fun h28 => ?_) (fun h28 => ?_)
      · refine J.iconst hG dX7_isLaw_35 (by decide) ?_
        refine J.zret hG (by first | exact Or.inl rfl | exact Or.inr rfl | assumption | (split <;> first | exact Or.inl rfl | exact Or.inr rfl)) dX7_isLaw_36 ?_
        rw [hX]; dsimp only
        exact ⟨by congr 2; first | (rw [if_pos (by omega)]; done) | (rw [if_neg (by omega)]; done), rfl⟩
      · refine J.iconst hG dX7_isLaw_31 (by decide) ?_
        refine J.goto hG 36 dX7_isLaw_32 rfl ?_
        refine J.zret hG (by first | exact Or.inl rfl | exact Or.inr rfl | assumption | (split <;> first | exact Or.inl rfl | exact Or.inr rfl)) dX7_isLaw_36 ?_
        rw [hX]; dsimp only
        exact ⟨by congr 2; first | (rw [if_pos (by omega)]; done) | (rw [if_neg (by omega)]; done), rfl⟩

set_option maxRecDepth 100000 in
set_option maxHeartbeats 4000000 in
theorem X7_clear (μ0 μ : Mem) (hμ : μ = th μ0)  : CT TM md_X7_clear [aR 0] μ0 (fun rv μ1 => rv = some (aI (μ 0 3)) ∧ μ1 = up μ 0 3 0) := by
  refine CT.of (Nat.le_of_ble_eq_true rfl) (by decide) rfl (Nat.le_of_ble_eq_true rfl) (fun X hG hX => ?_)
  have hG : G TM X RX7 cX7_clear 2 0 0 (some .int) := hG
  show J TM X 2 0 [some (aR 0), none] [] μ0
  refine J.aload_n hG dX7_clear_0 rfl rfl ?_
  refine J.iconst hG dX7_clear_1 (by decide) ?_
  refine J.putI hG ciX7 rfl 0 0 rfl (Nat.le_of_ble_eq_true rfl) rfl fl_X7_75 rfl rfl dX7_clear_2 ?_
  show J TM X 2 5 [some (aR 0), none] [] (th μ0)
  rw [← hμ]
  refine J.aload_n hG dX7_clear_5 rfl rfl ?_
  refine J.getI hG ciX7 rfl 3 3 rfl (Nat.le_of_ble_eq_true rfl) rfl fl_X7_82 dX7_clear_6 ?_
  refine J.istore_n hG dX7_clear_9 rfl (Nat.le_of_ble_eq_true rfl) ?_
  refine J.aload_n hG dX7_clear_10 rfl rfl ?_
  refine J.iconst hG dX7_clear_11 (by decide) ?_
  refine J.putI hG ciX7 rfl 3 3 rfl (Nat.le_of_ble_eq_true rfl) rfl fl_X7_82 rfl rfl dX7_clear_12 ?_
  refine J.iload_n hG dX7_clear_15 rfl rfl ?_
  refine J.iret hG dX7_clear_16 ?_
  rw [hX]; dsimp only
  exact ⟨rfl, rfl⟩

set_option maxRecDepth 100000 in
set_option maxHeartbeats 4000000 in
theorem X7_type (μ0 μ : Mem) (hμ : μ = th μ0) (h : 0 ≤ μ 0 3 ∧ μ 0 3 ≤ 200) (x : Int) : CT TM md_X7_type [aR 0, aI x] μ0 (fun rv μ1 => if ¬ (0 ≤ x ∧ x ≤ 255) then rv = some (aI (-1)) ∧ μ1 = μ else if μ 0 3 = 200 then rv = some (aI (-3)) ∧ μ1 = μ else rv = some (aI (μ 0 3 + 1)) ∧ μ1 = up (up μ 1 (μ 0 3) x) 0 3 (μ 0 3 + 1)) := by
  refine CT.of (Nat.le_of_ble_eq_true rfl) (by decide) rfl (Nat.le_of_ble_eq_true rfl) (fun X hG hX => ?_)
  have hG : G TM X RX7 cX7_type 2 1 22 (some .int) := hG
  show J TM X 2 0 [some (aR 0), some (aI x)] [] μ0
  refine J.aload_n hG dX7_type_0 rfl rfl ?_
  refine J.iconst hG dX7_type_1 (by decide) ?_
  refine J.putI hG ciX7 rfl 0 0 rfl (Nat.le_of_ble_eq_true rfl) rfl fl_X7_75 rfl rfl dX7_type_2 ?_
  show J TM X 2 5 [some (aR 0), some (aI x)] [] (th μ0)
  rw [← hμ]
  refine J.iload_n hG dX7_type_5 rfl rfl ?_
  refine J.iconst hG dX7_type_6 (by decide) ?_
  refine J.sipush hG dX7_type_7 (by decide) (by decide) ?_
  refine J.callS hG (X7_in _ _ _ _) ok_X7_in ml_X7_78 rfl (Nat.le_of_ble_eq_true rfl) ⟨Nat.le_of_ble_eq_true rfl, Nat.le_of_ble_eq_true rfl⟩ dX7_type_10 rfl (fun r1 μ1 hp1 => ?_)
  obtain ⟨rfl, rfl⟩ := hp1
  refine J.ifb_ne hG 18 dX7_type_13 rfl (fun h13 => ?_) (fun h13 => ?_)
  · refine J.aload_n hG dX7_type_18 rfl rfl ?_
    refine J.getI hG ciX7 rfl 3 3 rfl (Nat.le_of_ble_eq_true rfl) rfl fl_X7_82 dX7_type_19 ?_
    refine J.sipush hG dX7_type_22 (by decide) (by decide) ?_
    refine J.icmp_ne hG 31 dX7_type_25 rfl (fun h25 => ?_) (fun h25 => ?_)
    · refine J.aload_n hG dX7_type_31 rfl rfl ?_
      refine J.getR hG ciX7 rfl 2 2 rfl (Nat.le_of_ble_eq_true rfl) rfl fl_X7_7 dX7_type_32 ?_
      refine J.aload_n hG dX7_type_35 rfl rfl ?_
      refine J.getI hG ciX7 rfl 3 3 rfl (Nat.le_of_ble_eq_true rfl) rfl fl_X7_82 dX7_type_36 ?_
      refine J.iload_n hG dX7_type_39 rfl rfl ?_
      refine J.iast hG rfl (by omega) (by omega) dX7_type_40 ?_
      refine J.aload_n hG dX7_type_41 rfl rfl ?_
      refine J.dup hG dX7_type_42 (fun _ => rfl) ?_
      refine J.getI hG ciX7 rfl 3 3 rfl (Nat.le_of_ble_eq_true rfl) rfl fl_X7_82 dX7_type_43 ?_
      refine J.iconst hG dX7_type_46 (by decide) ?_
      refine J.iadd hG dX7_type_47 (fun _ _ => (by rw [up_cell _ _ _ (by decide)]; omega)) ?_
      refine J.putI hG ciX7 rfl 3 3 rfl (Nat.le_of_ble_eq_true rfl) rfl fl_X7_82 rfl rfl dX7_type_48 ?_
      refine J.aload_n hG dX7_type_51 rfl rfl ?_
      refine J.getI hG ciX7 rfl 3 3 rfl (Nat.le_of_ble_eq_true rfl) rfl fl_X7_82 dX7_type_52 ?_
      refine J.iret hG dX7_type_55 ?_
      rw [hX]; dsimp only
      rw [if_neg (by omega), if_neg (by omega), up_self, up_cell _ _ _ (by decide)]
      exact ⟨rfl, rfl⟩
    · refine J.bipush hG dX7_type_28 (by decide) (by decide) ?_
      refine J.iret hG dX7_type_30 ?_
      rw [hX]; dsimp only
      rw [if_neg (by omega), if_pos (by omega)]
      exact ⟨rfl, rfl⟩
  · refine J.iconst hG dX7_type_16 (by decide) ?_
    refine J.iret hG dX7_type_17 ?_
    rw [hX]; dsimp only
    rw [if_pos (by omega)]
    exact ⟨rfl, rfl⟩

set_option maxRecDepth 100000 in
set_option maxHeartbeats 4000000 in
theorem X7_trace (μ0 μ : Mem) (hμ : μ = th μ0)  : CT TM md_X7_trace [aR 0] μ0 (fun rv μ1 => rv = some (aL (μ 1000 1)) ∧ μ = μ1) := by
  refine CT.of (Nat.le_of_ble_eq_true rfl) (by decide) rfl (Nat.le_of_ble_eq_true rfl) (fun X hG hX => ?_)
  have hG : G TM X RX7 cX7_trace 1 0 0 (some .long) := hG
  show J TM X 1 0 [some (aR 0)] [] μ0
  refine J.aload_n hG dX7_trace_0 rfl rfl ?_
  refine J.iconst hG dX7_trace_1 (by decide) ?_
  refine J.putI hG ciX7 rfl 0 0 rfl (Nat.le_of_ble_eq_true rfl) rfl fl_X7_75 rfl rfl dX7_trace_2 ?_
  show J TM X 1 5 [some (aR 0)] [] (th μ0)
  rw [← hμ]
  refine J.aload_n hG dX7_trace_5 rfl rfl ?_
  refine J.getL hG ciX7 rfl 1 1 rfl (Nat.le_of_ble_eq_true rfl) 1000 rfl rfl fl_X7_251 dX7_trace_6 ?_
  refine J.lret hG dX7_trace_9 ?_
  rw [hX]; dsimp only
  exact ⟨rfl, rfl⟩

set_option maxRecDepth 100000 in
set_option maxHeartbeats 4000000 in
theorem X7_count (μ0 μ : Mem) (hμ : μ = th μ0) (w : Int) : CT TM md_X7_count [aR 0, aI w] μ0 (fun rv μ1 => rv = some (aI (if w = 0 then μ 0 14 else if w = 1 then μ 0 15 else if w = 2 then μ 0 16 else if w = 3 then μ 0 30 else if w = 4 then μ 0 34 else if w = 5 then μ 0 3 else if w = 6 then μ 0 17 else -1)) ∧ μ = μ1) := by
  refine CT.of (Nat.le_of_ble_eq_true rfl) (by decide) rfl (Nat.le_of_ble_eq_true rfl) (fun X hG hX => ?_)
  have hG : G TM X RX7 cX7_count 2 0 0 (some .int) := hG
  show J TM X 2 0 [some (aR 0), some (aI w)] [] μ0
  refine J.aload_n hG dX7_count_0 rfl rfl ?_
  refine J.iconst hG dX7_count_1 (by decide) ?_
  refine J.putI hG ciX7 rfl 0 0 rfl (Nat.le_of_ble_eq_true rfl) rfl fl_X7_75 rfl rfl dX7_count_2 ?_
  show J TM X 2 5 [some (aR 0), some (aI w)] [] (th μ0)
  rw [← hμ]
  refine J.iload_n hG dX7_count_5 rfl rfl ?_
  refine J.iconst hG dX7_count_6 (by decide) ?_
  refine J.icmp_ge hG 47 dX7_count_7 rfl (fun h7 => ?_) (fun h7 => ?_)
  · refine J.iload_n hG dX7_count_47 rfl rfl ?_
    refine J.iconst hG dX7_count_48 (by decide) ?_
    refine J.icmp_ne hG 59 dX7_count_49 rfl (fun h49 => ?_) (fun h49 => ?_)
    · refine J.iload_n hG dX7_count_59 rfl rfl ?_
      refine J.iconst hG dX7_count_60 (by decide) ?_
      refine J.icmp_ne hG 71 dX7_count_61 rfl (fun h61 => ?_) (fun h61 => ?_)
      · refine J.iload_n hG dX7_count_71 rfl rfl ?_
        refine J.iconst hG dX7_count_72 (by decide) ?_
        refine J.icmp_ne hG 83 dX7_count_73 rfl (fun h73 => ?_) (fun h73 => ?_)
        · refine J.iload_n hG dX7_count_83 rfl rfl ?_
          refine J.bipush hG dX7_count_84 (by decide) (by decide) ?_
          refine J.icmp_ne hG 96 dX7_count_86 rfl (fun h86 => ?_) (fun h86 => ?_)
          · refine J.iconst hG dX7_count_96 (by decide) ?_
            refine J.iret hG dX7_count_97 ?_
            rw [hX]; dsimp only
            exact ⟨by congr 2; try ((repeat' split) <;> first | rfl | (exfalso; omega) | omega), rfl⟩
          · refine J.aload_n hG dX7_count_89 rfl rfl ?_
            refine J.getI hG ciX7 rfl 17 17 rfl (Nat.le_of_ble_eq_true rfl) rfl fl_X7_71 dX7_count_90 ?_
            refine J.goto hG 97 dX7_count_93 rfl ?_
            refine J.iret hG dX7_count_97 ?_
            rw [hX]; dsimp only
            exact ⟨by congr 2; try ((repeat' split) <;> first | rfl | (exfalso; omega) | omega), rfl⟩
        · refine J.aload_n hG dX7_count_76 rfl rfl ?_
          refine J.getI hG ciX7 rfl 3 3 rfl (Nat.le_of_ble_eq_true rfl) rfl fl_X7_82 dX7_count_77 ?_
          refine J.goto hG 97 dX7_count_80 rfl ?_
          refine J.iret hG dX7_count_97 ?_
          rw [hX]; dsimp only
          exact ⟨by congr 2; try ((repeat' split) <;> first | rfl | (exfalso; omega) | omega), rfl⟩
      · refine J.aload_n hG dX7_count_64 rfl rfl ?_
        refine J.getI hG ciX7 rfl 34 34 rfl (Nat.le_of_ble_eq_true rfl) rfl fl_X7_156 dX7_count_65 ?_
        refine J.goto hG 97 dX7_count_68 rfl ?_
        refine J.iret hG dX7_count_97 ?_
        rw [hX]; dsimp only
        exact ⟨by congr 2; try ((repeat' split) <;> first | rfl | (exfalso; omega) | omega), rfl⟩
    · refine J.aload_n hG dX7_count_52 rfl rfl ?_
      refine J.getI hG ciX7 rfl 30 30 rfl (Nat.le_of_ble_eq_true rfl) rfl fl_X7_153 dX7_count_53 ?_
      refine J.goto hG 97 dX7_count_56 rfl ?_
      refine J.iret hG dX7_count_97 ?_
      rw [hX]; dsimp only
      exact ⟨by congr 2; try ((repeat' split) <;> first | rfl | (exfalso; omega) | omega), rfl⟩
  · refine J.iload_n hG dX7_count_10 rfl rfl ?_
    refine J.if_ne hG 21 dX7_count_11 rfl (fun h11 => ?_) (fun h11 => ?_)
    · refine J.iload_n hG dX7_count_21 rfl rfl ?_
      refine J.iconst hG dX7_count_22 (by decide) ?_
      refine J.icmp_ne hG 33 dX7_count_23 rfl (fun h23 => ?_) (fun h23 => ?_)
      · refine J.iload_n hG dX7_count_33 rfl rfl ?_
        refine J.iconst hG dX7_count_34 (by decide) ?_
        refine J.icmp_ne hG 45 dX7_count_35 rfl (fun h35 => ?_) (fun h35 => ?_)
        · refine J.iconst hG dX7_count_45 (by decide) ?_
          refine J.iret hG dX7_count_46 ?_
          rw [hX]; dsimp only
          exact ⟨by congr 2; try ((repeat' split) <;> first | rfl | (exfalso; omega) | omega), rfl⟩
        · refine J.aload_n hG dX7_count_38 rfl rfl ?_
          refine J.getI hG ciX7 rfl 16 16 rfl (Nat.le_of_ble_eq_true rfl) rfl fl_X7_147 dX7_count_39 ?_
          refine J.goto hG 46 dX7_count_42 rfl ?_
          refine J.iret hG dX7_count_46 ?_
          rw [hX]; dsimp only
          exact ⟨by congr 2; try ((repeat' split) <;> first | rfl | (exfalso; omega) | omega), rfl⟩
      · refine J.aload_n hG dX7_count_26 rfl rfl ?_
        refine J.getI hG ciX7 rfl 15 15 rfl (Nat.le_of_ble_eq_true rfl) rfl fl_X7_144 dX7_count_27 ?_
        refine J.goto hG 46 dX7_count_30 rfl ?_
        refine J.iret hG dX7_count_46 ?_
        rw [hX]; dsimp only
        exact ⟨by congr 2; try ((repeat' split) <;> first | rfl | (exfalso; omega) | omega), rfl⟩
    · refine J.aload_n hG dX7_count_14 rfl rfl ?_
      refine J.getI hG ciX7 rfl 14 14 rfl (Nat.le_of_ble_eq_true rfl) rfl fl_X7_141 dX7_count_15 ?_
      refine J.goto hG 46 dX7_count_18 rfl ?_
      refine J.iret hG dX7_count_46 ?_
      rw [hX]; dsimp only
      exact ⟨by congr 2; try ((repeat' split) <;> first | rfl | (exfalso; omega) | omega), rfl⟩

set_option maxRecDepth 100000 in
set_option maxHeartbeats 4000000 in
theorem X7_drop (μ0 μ : Mem) (hμ : μ = th μ0)  : CT TM md_X7_drop [aR 0] μ0 (fun rv μ1 => rv = some (aI (μ 0 30)) ∧ μ1 = up μ 0 30 0) := by
  refine CT.of (Nat.le_of_ble_eq_true rfl) (by decide) rfl (Nat.le_of_ble_eq_true rfl) (fun X hG hX => ?_)
  have hG : G TM X RX7 cX7_drop 2 0 0 (some .int) := hG
  show J TM X 2 0 [some (aR 0), none] [] μ0
  refine J.aload_n hG dX7_drop_0 rfl rfl ?_
  refine J.iconst hG dX7_drop_1 (by decide) ?_
  refine J.putI hG ciX7 rfl 0 0 rfl (Nat.le_of_ble_eq_true rfl) rfl fl_X7_75 rfl rfl dX7_drop_2 ?_
  show J TM X 2 5 [some (aR 0), none] [] (th μ0)
  rw [← hμ]
  refine J.aload_n hG dX7_drop_5 rfl rfl ?_
  refine J.getI hG ciX7 rfl 30 30 rfl (Nat.le_of_ble_eq_true rfl) rfl fl_X7_153 dX7_drop_6 ?_
  refine J.istore_n hG dX7_drop_9 rfl (Nat.le_of_ble_eq_true rfl) ?_
  refine J.aload_n hG dX7_drop_10 rfl rfl ?_
  refine J.iconst hG dX7_drop_11 (by decide) ?_
  refine J.putI hG ciX7 rfl 30 30 rfl (Nat.le_of_ble_eq_true rfl) rfl fl_X7_153 rfl rfl dX7_drop_12 ?_
  refine J.iload_n hG dX7_drop_15 rfl rfl ?_
  refine J.iret hG dX7_drop_16 ?_
  rw [hX]; dsimp only
  exact ⟨rfl, rfl⟩

set_option maxRecDepth 100000 in
set_option maxHeartbeats 4000000 in
theorem X7_burn (μ0 μ : Mem) (hμ : μ = th μ0)  : CT TM md_X7_burn [aR 0] μ0 (fun rv μ1 => rv = some (aI (μ 0 34)) ∧ μ1 = up μ 0 34 0) := by
  refine CT.of (Nat.le_of_ble_eq_true rfl) (by decide) rfl (Nat.le_of_ble_eq_true rfl) (fun X hG hX => ?_)
  have hG : G TM X RX7 cX7_burn 2 0 0 (some .int) := hG
  show J TM X 2 0 [some (aR 0), none] [] μ0
  refine J.aload_n hG dX7_burn_0 rfl rfl ?_
  refine J.iconst hG dX7_burn_1 (by decide) ?_
  refine J.putI hG ciX7 rfl 0 0 rfl (Nat.le_of_ble_eq_true rfl) rfl fl_X7_75 rfl rfl dX7_burn_2 ?_
  show J TM X 2 5 [some (aR 0), none] [] (th μ0)
  rw [← hμ]
  refine J.aload_n hG dX7_burn_5 rfl rfl ?_
  refine J.getI hG ciX7 rfl 34 34 rfl (Nat.le_of_ble_eq_true rfl) rfl fl_X7_156 dX7_burn_6 ?_
  refine J.istore_n hG dX7_burn_9 rfl (Nat.le_of_ble_eq_true rfl) ?_
  refine J.aload_n hG dX7_burn_10 rfl rfl ?_
  refine J.iconst hG dX7_burn_11 (by decide) ?_
  refine J.putI hG ciX7 rfl 34 34 rfl (Nat.le_of_ble_eq_true rfl) rfl fl_X7_156 rfl rfl dX7_burn_12 ?_
  refine J.iload_n hG dX7_burn_15 rfl rfl ?_
  refine J.iret hG dX7_burn_16 ?_
  rw [hX]; dsimp only
  exact ⟨rfl, rfl⟩

set_option maxRecDepth 100000 in
set_option maxHeartbeats 4000000 in
theorem X7_plans (μ0 μ : Mem) (hμ : μ = th μ0) (hB : MB μ) (h : 0 ≤ μ 0 30 ∧ μ 0 30 ≤ 5) (s b : Int) : CT TM md_X7_plans [aR 0, aI s, aI b] μ0 (fun rv μ1 => if ¬ ((0 ≤ s ∧ s < μ 0 14) ∧ (-9 ≤ b ∧ b ≤ 9)) then rv = some (aI (-1)) ∧ μ1 = μ else if μ 0 30 = 5 then rv = some (aI (-3)) ∧ μ1 = μ else rv = some (aI (μ 0 30 + 1)) ∧ μ1 = up (up (up μ 12 (μ 0 30) s) 13 (μ 0 30) b) 0 30 (μ 0 30 + 1)) := by
  refine CT.of (Nat.le_of_ble_eq_true rfl) (by decide) rfl (Nat.le_of_ble_eq_true rfl) (fun X hG hX => ?_)
  have hG : G TM X RX7 cX7_plans 3 2 43 (some .int) := hG
  show J TM X 3 0 [some (aR 0), some (aI s), some (aI b)] [] μ0
  refine J.aload_n hG dX7_plans_0 rfl rfl ?_
  refine J.iconst hG dX7_plans_1 (by decide) ?_
  refine J.putI hG ciX7 rfl 0 0 rfl (Nat.le_of_ble_eq_true rfl) rfl fl_X7_75 rfl rfl dX7_plans_2 ?_
  show J TM X 3 5 [some (aR 0), some (aI s), some (aI b)] [] (th μ0)
  rw [← hμ]
  have hB2 := hB
  obtain ⟨h1, h2, h3, h4, h5, h6⟩ := hB2
  refine J.aload_n hG dX7_plans_5 rfl rfl ?_
  refine J.iload_n hG dX7_plans_6 rfl rfl ?_
  refine J.callV hG (X7_isScale _ _ (by omega)) ok_X7_isScale ml_X7_159 rfl rfl rfl rfl (Nat.le_of_ble_eq_true rfl) ⟨Nat.le_of_ble_eq_true rfl, Nat.le_of_ble_eq_true rfl⟩ dX7_plans_7 rfl (fun r1 μ1 hp1 => ?_)
  obtain ⟨rfl, rfl⟩ := hp1
  refine J.ifb_eq hG 24 dX7_plans_10 rfl (fun h10 => ?_) (fun h10 => ?_)
  · refine J.iconst hG dX7_plans_24 (by decide) ?_
    refine J.iret hG dX7_plans_25 ?_
    rw [hX]; dsimp only
    rw [if_pos (by omega)]
    exact ⟨rfl, rfl⟩
  · refine J.iload_n hG dX7_plans_13 rfl rfl ?_
    refine J.bipush hG dX7_plans_14 (by decide) (by decide) ?_
    refine J.bipush hG dX7_plans_16 (by decide) (by decide) ?_
    refine J.callS hG (X7_in _ _ _ _) ok_X7_in ml_X7_78 rfl (Nat.le_of_ble_eq_true rfl) ⟨Nat.le_of_ble_eq_true rfl, Nat.le_of_ble_eq_true rfl⟩ dX7_plans_18 rfl (fun r1 μ1 hp1 => ?_)
    obtain ⟨rfl, rfl⟩ := hp1
    refine J.ifb_ne hG 26 dX7_plans_21 rfl (fun h21 => ?_) (fun h21 => ?_)
    · refine J.aload_n hG dX7_plans_26 rfl rfl ?_
      refine J.getI hG ciX7 rfl 30 30 rfl (Nat.le_of_ble_eq_true rfl) rfl fl_X7_153 dX7_plans_27 ?_
      refine J.iconst hG dX7_plans_30 (by decide) ?_
      refine J.icmp_ne hG 37 dX7_plans_31 rfl (fun h31 => ?_) (fun h31 => ?_)
      · refine J.aload_n hG dX7_plans_37 rfl rfl ?_
        refine J.getR hG ciX7 rfl 28 28 rfl (Nat.le_of_ble_eq_true rfl) rfl fl_X7_44 dX7_plans_38 ?_
        refine J.aload_n hG dX7_plans_41 rfl rfl ?_
        refine J.getI hG ciX7 rfl 30 30 rfl (Nat.le_of_ble_eq_true rfl) rfl fl_X7_153 dX7_plans_42 ?_
        refine J.iload_n hG dX7_plans_45 rfl rfl ?_
        refine J.iast hG rfl (by first | omega | ((try simp only [up_cell _ _ _ (show (0 : Nat) ≠ 12 by decide), up_cell _ _ _ (show (0 : Nat) ≠ 13 by decide)]); omega)) (by first | omega | ((try simp only [up_cell _ _ _ (show (0 : Nat) ≠ 12 by decide), up_cell _ _ _ (show (0 : Nat) ≠ 13 by decide)]); omega)) dX7_plans_46 ?_
        refine J.aload_n hG dX7_plans_47 rfl rfl ?_
        refine J.getR hG ciX7 rfl 29 29 rfl (Nat.le_of_ble_eq_true rfl) rfl fl_X7_47 dX7_plans_48 ?_
        refine J.aload_n hG dX7_plans_51 rfl rfl ?_
        refine J.getI hG ciX7 rfl 30 30 rfl (Nat.le_of_ble_eq_true rfl) rfl fl_X7_153 dX7_plans_52 ?_
        refine J.iload_n hG dX7_plans_55 rfl rfl ?_
        refine J.iast hG rfl (by first | omega | ((try simp only [up_cell _ _ _ (show (0 : Nat) ≠ 12 by decide), up_cell _ _ _ (show (0 : Nat) ≠ 13 by decide)]); omega)) (by first | omega | ((try simp only [up_cell _ _ _ (show (0 : Nat) ≠ 12 by decide), up_cell _ _ _ (show (0 : Nat) ≠ 13 by decide)]); omega)) dX7_plans_56 ?_
        refine J.aload_n hG dX7_plans_57 rfl rfl ?_
        refine J.dup hG dX7_plans_58 (fun _ => rfl) ?_
        refine J.getI hG ciX7 rfl 30 30 rfl (Nat.le_of_ble_eq_true rfl) rfl fl_X7_153 dX7_plans_59 ?_
        refine J.iconst hG dX7_plans_62 (by decide) ?_
        refine J.iadd hG dX7_plans_63 (fun _ _ => (by first | omega | ((try simp only [up_cell _ _ _ (show (0 : Nat) ≠ 12 by decide), up_cell _ _ _ (show (0 : Nat) ≠ 13 by decide)]); omega))) ?_
        refine J.putI hG ciX7 rfl 30 30 rfl (Nat.le_of_ble_eq_true rfl) rfl fl_X7_153 rfl rfl dX7_plans_64 ?_
        refine J.aload_n hG dX7_plans_67 rfl rfl ?_
        refine J.getI hG ciX7 rfl 30 30 rfl (Nat.le_of_ble_eq_true rfl) rfl fl_X7_153 dX7_plans_68 ?_
        refine J.iret hG dX7_plans_71 ?_
        rw [hX]; dsimp only
        rw [if_neg (by omega), if_neg (by omega), up_self, up_cell _ _ _ (by decide), up_cell _ _ _ (by decide)]
        exact ⟨rfl, rfl⟩
      · refine J.bipush hG dX7_plans_34 (by decide) (by decide) ?_
        refine J.iret hG dX7_plans_36 ?_
        rw [hX]; dsimp only
        rw [if_neg (by omega), if_pos (by omega)]
        exact ⟨rfl, rfl⟩
    · refine J.iconst hG dX7_plans_24 (by decide) ?_
      refine J.iret hG dX7_plans_25 ?_
      rw [hX]; dsimp only
      rw [if_pos (by omega)]
      exact ⟨rfl, rfl⟩


/-! what the reference's books say -/
def mEY (μ : Mem) (s y v d : Int) : Int := mEn μ 7 s (cl (μ 2 s) (v + y * d))
def mAg (μ : Mem) (s v d : Int) : Int := fs3 (fun i => if μ 14 i = s ∧ ¬ mEY μ s (μ 15 i) v d = μ 16 i then 3 else 0) (μ 0 34).toNat 0
def mFits (μ : Mem) (s : Int) : Int := smf (fun v => smf (fun d => if mAg μ s v d = -9 then 1 else 0) (-3) 7) 0 (μ 2 s + 1).toNat
def mSure (μ : Mem) (s y : Int) : Int := ff (fun v c => ff (fun d c => sst (mAg μ s v d) (mEY μ s y v d) c) 7 (-3) c) (μ 2 s + 1).toNat 0 (-9)
def MBk (μ : Mem) : Prop := (0 ≤ μ 0 34 ∧ μ 0 34 ≤ 6) ∧ ∀ i : Int, 0 ≤ i → i < μ 0 34 → 0 ≤ μ 15 i ∧ μ 15 i ≤ 60
theorem mEY_b (μ : Mem) (s y v d : Int) : 0 ≤ mEY μ s y v d ∧ mEY μ s y v d ≤ 3 := EB_bound _ _ _ _
def mO (μ : Mem) (a b v : Int) : Int := if (mEn μ 7 a v = 0 ∧ mEn μ 7 b v = 1) ∨ (mEn μ 7 a v = 1 ∧ mEn μ 7 b v = 0) then 3 else 0
def mOp (μ : Mem) (a b : Int) : Int := if μ 2 a = μ 2 b then fs3 (mO μ a b) (μ 2 a + 1).toNat 0 else -9
def mClash (μ : Mem) : Int := fc (fun a => fs3 (fun b => if mOp μ a b = -9 then 0 else 3) (μ 0 14 - (a + 1)).toNat (a + 1)) (μ 0 14).toNat 0

set_option maxRecDepth 100000 in
set_option maxHeartbeats 4000000 in
theorem X7_endBehind (μ : Mem) (hB : MB μ) (s v d y : Int) (hs : 0 ≤ s ∧ s < μ 0 14) (hv : 0 ≤ v ∧ v ≤ μ 2 s) (hd : -3 ≤ d ∧ d ≤ 3) (hy : 0 ≤ y ∧ y ≤ 60) : CT TM md_X7_endBehind [aR 0, aI s, aI v, aI d, aI y] μ (fun rv μ1 => rv = some (aI (mEY μ s y v d)) ∧ μ = μ1) := by
  refine CT.of (Nat.le_of_ble_eq_true rfl) (by decide) rfl (Nat.le_of_ble_eq_true rfl) (fun X hG hX => ?_)
  have hG : G TM X RX7 cX7_endBehind 7 2 46 (some .int) := hG
  show J TM X 7 0 [some (aR 0), some (aI s), some (aI v), some (aI d), some (aI y), none, none] [] μ
  have hB2 := hB
  obtain ⟨h1, h2, h3, h4, h5, h6⟩ := hB2
  have q5 := h5 s hs.1 hs.2
  have lp : ∀ (k : Nat) (n : Int) (c : Int), 0 ≤ n → n + k = y → (c = cl (μ 2 s) (v + n * d)) → J TM X 7 6 [some (aR 0), some (aI s), some (aI v), some (aI d), some (aI y), some (aI c), some (aI n)] [] μ := by
    intro k
    induction k with
    | zero =>
      intro n c i0 i1 i2
      have ey : y = n := by omega
      have cb := cl_bound (r := μ 2 s) (x := v + n * d) (by omega)
      refine J.iload hG dX7_endBehind_6 rfl ?_
      refine J.iload hG dX7_endBehind_8 rfl ?_
      refine J.icmp_ge hG 34 dX7_endBehind_10 rfl (fun h10 => ?_) (fun h10 => absurd h10 (by omega))
      refine J.aload_n hG dX7_endBehind_34 rfl rfl ?_
      refine J.aload_n hG dX7_endBehind_35 rfl rfl ?_
      refine J.getR hG ciX7 rfl 22 22 rfl (Nat.le_of_ble_eq_true rfl) rfl fl_X7_28 dX7_endBehind_36 ?_
      refine J.iload_n hG dX7_endBehind_39 rfl rfl ?_
      refine J.iload hG dX7_endBehind_40 rfl ?_
      refine J.callV hG (X7_endOf _ _ rfl _ _ (by omega) (by omega)) ok_X7_endOf ml_X7_167 rfl rfl rfl rfl (Nat.le_of_ble_eq_true rfl) ⟨Nat.le_of_ble_eq_true rfl, Nat.le_of_ble_eq_true rfl⟩ dX7_endBehind_42 rfl (fun r1 μ1 hp1 => ?_)
      obtain ⟨rfl, rfl⟩ := hp1
      refine J.iret hG dX7_endBehind_45 ?_
      rw [hX]; dsimp only
      subst ey
      exact ⟨by rw [i2]; rfl, rfl⟩
    | succ k ih =>
      intro n c i0 i1 i2
      have cb := cl_bound (r := μ 2 s) (x := v + n * d) (by omega)
      refine J.iload hG dX7_endBehind_6 rfl ?_
      refine J.iload hG dX7_endBehind_8 rfl ?_
      refine J.icmp_ge hG 34 dX7_endBehind_10 rfl (fun h10 => absurd h10 (by omega)) (fun h10 => ?_)
      refine J.iload hG dX7_endBehind_13 rfl ?_
      refine J.iload_n hG dX7_endBehind_15 rfl rfl ?_
      refine J.iadd hG dX7_endBehind_16 (fun _ _ => (by omega)) ?_
      refine J.aload_n hG dX7_endBehind_17 rfl rfl ?_
      refine J.getR hG ciX7 rfl 9 9 rfl (Nat.le_of_ble_eq_true rfl) rfl fl_X7_13 dX7_endBehind_18 ?_
      refine J.iload_n hG dX7_endBehind_21 rfl rfl ?_
      refine J.iald hG rfl (by omega) (by omega) dX7_endBehind_22 ?_
      refine J.callS hG (X7_held _ _ _) ok_X7_held ml_X7_180 rfl (Nat.le_of_ble_eq_true rfl) ⟨Nat.le_of_ble_eq_true rfl, Nat.le_of_ble_eq_true rfl⟩ dX7_endBehind_23 rfl (fun r1 μ1 hp1 => ?_)
      obtain ⟨rfl, rfl⟩ := hp1
      refine J.istore hG dX7_endBehind_26 (Nat.le_of_ble_eq_true rfl) ?_
      refine J.iinc hG dX7_endBehind_28 (Nat.le_of_ble_eq_true rfl) rfl (fun _ => (by omega)) ?_
      refine J.goto hG 6 dX7_endBehind_31 rfl ?_
      exact ih (n + 1) _ (by omega) (by omega) (by rw [← cl_step n (by omega) hv i0, i2, Int.one_mul])
  refine J.iload_n hG dX7_endBehind_0 rfl rfl ?_
  refine J.istore hG dX7_endBehind_1 (Nat.le_of_ble_eq_true rfl) ?_
  refine J.iconst hG dX7_endBehind_3 (by decide) ?_
  refine J.istore hG dX7_endBehind_4 (Nat.le_of_ble_eq_true rfl) ?_
  exact lp y.toNat 0 v (Int.le_refl _) (by omega) (by unfold cl; rw [Int.zero_mul, Int.add_zero, if_neg (by omega), if_neg (by omega)])

set_option maxRecDepth 100000 in
set_option maxHeartbeats 4000000 in
theorem X7_isAsBooked (μ : Mem) (hB : MB μ) (s v d : Int) (hs : 0 ≤ s ∧ s < μ 0 14) (hv : 0 ≤ v ∧ v ≤ μ 2 s) (hd : -3 ≤ d ∧ d ≤ 3) (hK : MBk μ) : CT TM md_X7_isAsBooked [aR 0, aI s, aI v, aI d] μ (fun rv μ1 => rv = some (aI (if mAg μ s v d = -9 then 1 else 0)) ∧ μ = μ1) := by
  refine CT.of (Nat.le_of_ble_eq_true rfl) (by decide) rfl (Nat.le_of_ble_eq_true rfl) (fun X hG hX => ?_)
  have hG : G TM X RX7 cX7_isAsBooked 6 3 72 (some .boolean) := hG
  show J TM X 6 0 [some (aR 0), some (aI s), some (aI v), some (aI d), none, none] [] μ
  have hB2 := hB
  obtain ⟨h1, h2, h3, h4, h5, h6⟩ := hB2
  have ex0 : ∀ i : Int, ¬ mAg μ s v d = -9 → J TM X 6 6 [some (aR 0), some (aI s), some (aI v), some (aI d), some (aI 0), some (aI i)] [] μ := by
    intro i hne
    refine J.iload hG dX7_isAsBooked_6 rfl ?_
    refine J.aload_n hG dX7_isAsBooked_8 rfl rfl ?_
    refine J.getI hG ciX7 rfl 34 34 rfl (Nat.le_of_ble_eq_true rfl) rfl fl_X7_156 dX7_isAsBooked_9 ?_
    refine J.icmp_ge hG 68 dX7_isAsBooked_12 rfl (fun h12 => ?_) (fun h12 => ?_)
    · refine J.iload hG dX7_isAsBooked_68 rfl ?_
      refine J.zret hG (by first | exact Or.inl rfl | exact Or.inr rfl | assumption | (split <;> first | exact Or.inl rfl | exact Or.inr rfl)) dX7_isAsBooked_70 ?_
      rw [hX]; dsimp only
      exact ⟨by rw [if_neg hne], rfl⟩
    · refine J.iload hG dX7_isAsBooked_15 rfl ?_
      refine J.if_eq hG 68 dX7_isAsBooked_17 rfl (fun h17 => ?_) (fun h17 => absurd h17 (by omega))
      refine J.iload hG dX7_isAsBooked_68 rfl ?_
      refine J.zret hG (by first | exact Or.inl rfl | exact Or.inr rfl | assumption | (split <;> first | exact Or.inl rfl | exact Or.inr rfl)) dX7_isAsBooked_70 ?_
      rw [hX]; dsimp only
      exact ⟨by rw [if_neg hne], rfl⟩
  have lp : ∀ (k : Nat) (i : Int), 0 ≤ i → i + k = μ 0 34 → (fs3 (fun i => if μ 14 i = s ∧ ¬ mEY μ s (μ 15 i) v d = μ 16 i then 3 else 0) k i = mAg μ s v d) → J TM X 6 6 [some (aR 0), some (aI s), some (aI v), some (aI d), some (aI 1), some (aI i)] [] μ := by
    intro k
    induction k with
    | zero =>
      intro i  i0 i1 i2
      simp only [fs3] at i2
      refine J.iload hG dX7_isAsBooked_6 rfl ?_
      refine J.aload_n hG dX7_isAsBooked_8 rfl rfl ?_
      refine J.getI hG ciX7 rfl 34 34 rfl (Nat.le_of_ble_eq_true rfl) rfl fl_X7_156 dX7_isAsBooked_9 ?_
      refine J.icmp_ge hG 68 dX7_isAsBooked_12 rfl (fun h12 => ?_) (fun h12 => absurd h12 (by omega))
      refine J.iload hG dX7_isAsBooked_68 rfl ?_
      refine J.zret hG (by first | exact Or.inl rfl | exact Or.inr rfl | assumption | (split <;> first | exact Or.inl rfl | exact Or.inr rfl)) dX7_isAsBooked_70 ?_
      rw [hX]; dsimp only
      exact ⟨by rw [if_pos i2.symm], rfl⟩
    | succ k ih =>
      intro i  i0 i1 i2
      rw [fs3] at i2
      have qk := hK.2 i (by omega) (by omega)
      have qk0 := hK.1
      refine J.iload hG dX7_isAsBooked_6 rfl ?_
      refine J.aload_n hG dX7_isAsBooked_8 rfl rfl ?_
      refine J.getI hG ciX7 rfl 34 34 rfl (Nat.le_of_ble_eq_true rfl) rfl fl_X7_156 dX7_isAsBooked_9 ?_
      refine J.icmp_ge hG 68 dX7_isAsBooked_12 rfl (fun h12 => absurd h12 (by omega)) (fun h12 => ?_)
      refine J.iload hG dX7_isAsBooked_15 rfl ?_
      refine J.if_eq hG 68 dX7_isAsBooked_17 rfl (fun h17 => absurd h17 (by omega)) (fun h17 => ?_)
      refine J.aload_n hG dX7_isAsBooked_20 rfl rfl ?_
      refine J.getR hG ciX7 rfl 31 31 rfl (Nat.le_of_ble_eq_true rfl) rfl fl_X7_50 dX7_isAsBooked_21 ?_
      refine J.iload hG dX7_isAsBooked_24 rfl ?_
      refine J.iald hG rfl (by omega) (by omega) dX7_isAsBooked_26 ?_
      refine J.iload_n hG dX7_isAsBooked_27 rfl rfl ?_
      refine J.icmp_ne hG 55 dX7_isAsBooked_28 rfl (fun h28 => ?_) (fun h28 => ?_)
      · refine J.iconst hG dX7_isAsBooked_55 (by decide) ?_
        refine J.goto hG 60 dX7_isAsBooked_56 rfl ?_
        refine J.istore hG dX7_isAsBooked_60 (Nat.le_of_ble_eq_true rfl) ?_
        refine J.iinc hG dX7_isAsBooked_62 (Nat.le_of_ble_eq_true rfl) rfl (fun _ => (by omega)) ?_
        refine J.goto hG 6 dX7_isAsBooked_65 rfl ?_
        have e : ¬ (if μ 14 i = s ∧ ¬ mEY μ s (μ 15 i) v d = μ 16 i then (3 : Int) else 0) = 3 := by rw [if_neg (by omega)]; omega
        rw [if_neg e] at i2
        exact ih (i + 1) (by omega) (by omega) i2
      · refine J.aload_n hG dX7_isAsBooked_31 rfl rfl ?_
        refine J.iload_n hG dX7_isAsBooked_32 rfl rfl ?_
        refine J.iload_n hG dX7_isAsBooked_33 rfl rfl ?_
        refine J.iload_n hG dX7_isAsBooked_34 rfl rfl ?_
        refine J.aload_n hG dX7_isAsBooked_35 rfl rfl ?_
        refine J.getR hG ciX7 rfl 32 32 rfl (Nat.le_of_ble_eq_true rfl) rfl fl_X7_53 dX7_isAsBooked_36 ?_
        refine J.iload hG dX7_isAsBooked_39 rfl ?_
        refine J.iald hG rfl (by omega) (by omega) dX7_isAsBooked_41 ?_
        refine J.callV hG (X7_endBehind _ hB _ _ _ _ hs hv hd (by omega)) ok_X7_endBehind ml_X7_242 rfl rfl rfl rfl (Nat.le_of_ble_eq_true rfl) ⟨Nat.le_of_ble_eq_true rfl, Nat.le_of_ble_eq_true rfl⟩ dX7_isAsBooked_42 rfl (fun r1 μ1 hp1 => ?_)
        obtain ⟨rfl, rfl⟩ := hp1
        refine J.aload_n hG dX7_isAsBooked_45 rfl rfl ?_
        refine J.getR hG ciX7 rfl 33 33 rfl (Nat.le_of_ble_eq_true rfl) rfl fl_X7_56 dX7_isAsBooked_46 ?_
        refine J.iload hG dX7_isAsBooked_49 rfl ?_
        refine J.iald hG rfl (by omega) (by omega) dX7_isAsBooked_51 ?_
        refine J.icmp_ne hG 59 dX7_isAsBooked_52 rfl (fun h52 => ?_) (fun h52 => ?_)
        · refine J.iconst hG dX7_isAsBooked_59 (by decide) ?_
          refine J.istore hG dX7_isAsBooked_60 (Nat.le_of_ble_eq_true rfl) ?_
          refine J.iinc hG dX7_isAsBooked_62 (Nat.le_of_ble_eq_true rfl) rfl (fun _ => (by omega)) ?_
          refine J.goto hG 6 dX7_isAsBooked_65 rfl ?_
          have e : (if μ 14 i = s ∧ ¬ mEY μ s (μ 15 i) v d = μ 16 i then (3 : Int) else 0) = 3 := if_pos (by omega)
          rw [if_pos e] at i2
          exact ex0 (i + 1) (by rw [← i2]; omega)
        · refine J.iconst hG dX7_isAsBooked_55 (by decide) ?_
          refine J.goto hG 60 dX7_isAsBooked_56 rfl ?_
          refine J.istore hG dX7_isAsBooked_60 (Nat.le_of_ble_eq_true rfl) ?_
          refine J.iinc hG dX7_isAsBooked_62 (Nat.le_of_ble_eq_true rfl) rfl (fun _ => (by omega)) ?_
          refine J.goto hG 6 dX7_isAsBooked_65 rfl ?_
          have e : ¬ (if μ 14 i = s ∧ ¬ mEY μ s (μ 15 i) v d = μ 16 i then (3 : Int) else 0) = 3 := by rw [if_neg (by omega)]; omega
          rw [if_neg e] at i2
          exact ih (i + 1) (by omega) (by omega) i2
  refine J.iconst hG dX7_isAsBooked_0 (by decide) ?_
  refine J.istore hG dX7_isAsBooked_1 (Nat.le_of_ble_eq_true rfl) ?_
  refine J.iconst hG dX7_isAsBooked_3 (by decide) ?_
  refine J.istore hG dX7_isAsBooked_4 (Nat.le_of_ble_eq_true rfl) ?_
  exact lp (μ 0 34).toNat 0 (Int.le_refl _) (by have := hK.1; omega) rfl

set_option maxRecDepth 100000 in
set_option maxHeartbeats 4000000 in
theorem X7_fits (μ0 μ : Mem) (hμ : μ = th μ0) (hB : MB μ) (hK : MBk μ) (s : Int) : CT TM md_X7_fits [aR 0, aI s] μ0 (fun rv μ1 => rv = some (aI (if 0 ≤ s ∧ s < μ 0 14 then mFits μ s else -1)) ∧ μ = μ1) := by
  refine CT.of (Nat.le_of_ble_eq_true rfl) (by decide) rfl (Nat.le_of_ble_eq_true rfl) (fun X hG hX => ?_)
  have hG : G TM X RX7 cX7_fits 5 4 97 (some .int) := hG
  show J TM X 5 0 [some (aR 0), some (aI s), none, none, none] [] μ0
  refine J.aload_n hG dX7_fits_0 rfl rfl ?_
  refine J.iconst hG dX7_fits_1 (by decide) ?_
  refine J.putI hG ciX7 rfl 0 0 rfl (Nat.le_of_ble_eq_true rfl) rfl fl_X7_75 rfl rfl dX7_fits_2 ?_
  show J TM X 5 5 [some (aR 0), some (aI s), none, none, none] [] (th μ0)
  rw [← hμ]
  have hB2 := hB
  obtain ⟨h1, h2, h3, h4, h5, h6⟩ := hB2
  refine J.aload_n hG dX7_fits_5 rfl rfl ?_
  refine J.iload_n hG dX7_fits_6 rfl rfl ?_
  refine J.callV hG (X7_isScale _ _ (by omega)) ok_X7_isScale ml_X7_159 rfl rfl rfl rfl (Nat.le_of_ble_eq_true rfl) ⟨Nat.le_of_ble_eq_true rfl, Nat.le_of_ble_eq_true rfl⟩ dX7_fits_7 rfl (fun r1 μ1 hp1 => ?_)
  obtain ⟨rfl, rfl⟩ := hp1
  refine J.ifb_ne hG 15 dX7_fits_10 rfl (fun h10 => ?_) (fun h10 => ?_)
  · refine J.iconst hG dX7_fits_15 (by decide) ?_
    refine J.istore_n hG dX7_fits_16 rfl (Nat.le_of_ble_eq_true rfl) ?_
    refine J.iconst hG dX7_fits_17 (by decide) ?_
    refine J.istore_n hG dX7_fits_18 rfl (Nat.le_of_ble_eq_true rfl) ?_
    have q5 := h5 s (by omega) (by omega)
    have lp : ∀ (k : Nat) (v : Int) (a : Int), 0 ≤ v → v + k = μ 2 s + 1 → (0 ≤ a ∧ a ≤ 7 * v) → (a + smf (fun v => smf (fun d => if mAg μ s v d = -9 then 1 else 0) (-3) 7) v k = mFits μ s) → J TM X 5 19 [some (aR 0), some (aI s), some (aI a), some (aI v), none] [] μ := by
      intro k
      induction k with
      | zero =>
        intro v a i0 i1 i2 i3
        refine J.iload_n hG dX7_fits_19 rfl rfl ?_
        refine J.aload_n hG dX7_fits_20 rfl rfl ?_
        refine J.getR hG ciX7 rfl 9 9 rfl (Nat.le_of_ble_eq_true rfl) rfl fl_X7_13 dX7_fits_21 ?_
        refine J.iload_n hG dX7_fits_24 rfl rfl ?_
        refine J.iald hG rfl (by omega) (by omega) dX7_fits_25 ?_
        refine J.icmp_gt hG 70 dX7_fits_26 rfl (fun h26 => ?_) (fun h26 => absurd h26 (by omega))
        refine J.iload_n hG dX7_fits_70 rfl rfl ?_
        refine J.iret hG dX7_fits_71 ?_
        rw [hX]; dsimp only
        exact ⟨by rw [if_pos (by omega), ← i3]; simp only [smf, Int.add_zero], rfl⟩
      | succ k ih =>
        intro v a i0 i1 i2 i3
        rw [smf] at i3
        have ih0 := ih
        clear ih
        have lp2 : ∀ (k : Nat) (d : Int) (a2 : Int), -3 ≤ d → d + k = 4 → (0 ≤ a2 ∧ a2 ≤ 7 * v + (d + 3)) → (a2 + smf (fun d => if mAg μ s v d = -9 then 1 else 0) d k = a + smf (fun d => if mAg μ s v d = -9 then 1 else 0) (-3) 7) → J TM X 5 33 [some (aR 0), some (aI s), some (aI a2), some (aI v), some (aI d)] [] μ := by
          intro k
          induction k with
          | zero =>
            intro d a2 i8 i9 j2 j3
            refine J.iload hG dX7_fits_33 rfl ?_
            refine J.iconst hG dX7_fits_35 (by decide) ?_
            refine J.icmp_ge hG 64 dX7_fits_36 rfl (fun h36 => ?_) (fun h36 => absurd h36 (by omega))
            refine J.iinc hG dX7_fits_64 (Nat.le_of_ble_eq_true rfl) rfl (fun _ => (by omega)) ?_
            refine J.goto hG 19 dX7_fits_67 rfl ?_
            simp only [smf, Int.add_zero] at j3
            exact J.drop 4 (ih0 (v + 1) a2 (by omega) (by omega) (by omega) (by simp only [smf, Int.add_zero] at i3 j3 ⊢; omega))
          | succ k ih =>
            intro d a2 i8 i9 j2 j3
            rw [smf] at j3
            refine J.iload hG dX7_fits_33 rfl ?_
            refine J.iconst hG dX7_fits_35 (by decide) ?_
            refine J.icmp_ge hG 64 dX7_fits_36 rfl (fun h36 => absurd h36 (by omega)) (fun h36 => ?_)
            refine J.iload_n hG dX7_fits_39 rfl rfl ?_
            refine J.aload_n hG dX7_fits_40 rfl rfl ?_
            refine J.iload_n hG dX7_fits_41 rfl rfl ?_
            refine J.iload_n hG dX7_fits_42 rfl rfl ?_
            refine J.iload hG dX7_fits_43 rfl ?_
            refine J.callV hG (X7_isAsBooked _ hB _ _ _ (by omega) (by omega) (by omega) hK) ok_X7_isAsBooked ml_X7_245 rfl rfl rfl rfl (Nat.le_of_ble_eq_true rfl) ⟨Nat.le_of_ble_eq_true rfl, Nat.le_of_ble_eq_true rfl⟩ dX7_fits_45 rfl (fun r1 μ1 hp1 => ?_)
            obtain ⟨rfl, rfl⟩ := hp1
            refine J.ifb_eq hG 55 dX7_fits_48 rfl (fun h48 => ?_) (fun h48 => ?_)
            · refine J.iconst hG dX7_fits_55 (by decide) ?_
              refine J.iadd hG dX7_fits_56 (fun _ _ => (by omega)) ?_
              refine J.istore_n hG dX7_fits_57 rfl (Nat.le_of_ble_eq_true rfl) ?_
              refine J.iinc hG dX7_fits_58 (Nat.le_of_ble_eq_true rfl) rfl (fun _ => (by omega)) ?_
              refine J.goto hG 33 dX7_fits_61 rfl ?_
              exact ih (d + 1) _ (by omega) (by omega) (by omega) (by first | (rw [if_pos (by omega)] at j3; omega) | (rw [if_neg (by omega)] at j3; omega))
            · refine J.iconst hG dX7_fits_51 (by decide) ?_
              refine J.goto hG 56 dX7_fits_52 rfl ?_
              refine J.iadd hG dX7_fits_56 (fun _ _ => (by omega)) ?_
              refine J.istore_n hG dX7_fits_57 rfl (Nat.le_of_ble_eq_true rfl) ?_
              refine J.iinc hG dX7_fits_58 (Nat.le_of_ble_eq_true rfl) rfl (fun _ => (by omega)) ?_
              refine J.goto hG 33 dX7_fits_61 rfl ?_
              exact ih (d + 1) _ (by omega) (by omega) (by omega) (by first | (rw [if_pos (by omega)] at j3; omega) | (rw [if_neg (by omega)] at j3; omega))
        refine J.iload_n hG dX7_fits_19 rfl rfl ?_
        refine J.aload_n hG dX7_fits_20 rfl rfl ?_
        refine J.getR hG ciX7 rfl 9 9 rfl (Nat.le_of_ble_eq_true rfl) rfl fl_X7_13 dX7_fits_21 ?_
        refine J.iload_n hG dX7_fits_24 rfl rfl ?_
        refine J.iald hG rfl (by omega) (by omega) dX7_fits_25 ?_
        refine J.icmp_gt hG 70 dX7_fits_26 rfl (fun h26 => absurd h26 (by omega)) (fun h26 => ?_)
        refine J.bipush hG dX7_fits_29 (by decide) (by decide) ?_
        refine J.istore hG dX7_fits_31 (Nat.le_of_ble_eq_true rfl) ?_
        exact lp2 7 (-3) a (Int.le_refl _) (by omega) (by omega) rfl
    exact lp (μ 2 s + 1).toNat 0 0 (Int.le_refl _) (by omega) (by omega) (by unfold mFits; omega)
  · refine J.iconst hG dX7_fits_13 (by decide) ?_
    refine J.iret hG dX7_fits_14 ?_
    rw [hX]; dsimp only
    rw [if_neg (by omega)]
    exact ⟨rfl, rfl⟩

set_option maxRecDepth 100000 in
set_option maxHeartbeats 4000000 in
theorem X7_sure (μ0 μ : Mem) (hμ : μ = th μ0) (hB : MB μ) (hK : MBk μ) (s y : Int) : CT TM md_X7_sure [aR 0, aI s, aI y] μ0 (fun rv μ1 => rv = some (aI (if (0 ≤ s ∧ s < μ 0 14) ∧ (0 ≤ y ∧ y ≤ 60) then mSure μ s y else -1)) ∧ μ = μ1) := by
  refine CT.of (Nat.le_of_ble_eq_true rfl) (by decide) rfl (Nat.le_of_ble_eq_true rfl) (fun X hG hX => ?_)
  have hG : G TM X RX7 cX7_sure 7 4 97 (some .int) := hG
  show J TM X 7 0 [some (aR 0), some (aI s), some (aI y), none, none, none, none] [] μ0
  refine J.aload_n hG dX7_sure_0 rfl rfl ?_
  refine J.iconst hG dX7_sure_1 (by decide) ?_
  refine J.putI hG ciX7 rfl 0 0 rfl (Nat.le_of_ble_eq_true rfl) rfl fl_X7_75 rfl rfl dX7_sure_2 ?_
  show J TM X 7 5 [some (aR 0), some (aI s), some (aI y), none, none, none, none] [] (th μ0)
  rw [← hμ]
  have hB2 := hB
  obtain ⟨h1, h2, h3, h4, h5, h6⟩ := hB2
  refine J.aload_n hG dX7_sure_5 rfl rfl ?_
  refine J.iload_n hG dX7_sure_6 rfl rfl ?_
  refine J.callV hG (X7_isScale _ _ (by omega)) ok_X7_isScale ml_X7_159 rfl rfl rfl rfl (Nat.le_of_ble_eq_true rfl) ⟨Nat.le_of_ble_eq_true rfl, Nat.le_of_ble_eq_true rfl⟩ dX7_sure_7 rfl (fun r1 μ1 hp1 => ?_)
  obtain ⟨rfl, rfl⟩ := hp1
  refine J.ifb_eq hG 23 dX7_sure_10 rfl (fun h10 => ?_) (fun h10 => ?_)
  · refine J.iconst hG dX7_sure_23 (by decide) ?_
    refine J.iret hG dX7_sure_24 ?_
    rw [hX]; dsimp only
    rw [if_neg (by omega)]
    exact ⟨rfl, rfl⟩
  · refine J.iload_n hG dX7_sure_13 rfl rfl ?_
    refine J.iconst hG dX7_sure_14 (by decide) ?_
    refine J.bipush hG dX7_sure_15 (by decide) (by decide) ?_
    refine J.callS hG (X7_in _ _ _ _) ok_X7_in ml_X7_78 rfl (Nat.le_of_ble_eq_true rfl) ⟨Nat.le_of_ble_eq_true rfl, Nat.le_of_ble_eq_true rfl⟩ dX7_sure_17 rfl (fun r1 μ1 hp1 => ?_)
    obtain ⟨rfl, rfl⟩ := hp1
    refine J.ifb_ne hG 25 dX7_sure_20 rfl (fun h20 => ?_) (fun h20 => ?_)
    · refine J.bipush hG dX7_sure_25 (by decide) (by decide) ?_
      refine J.istore_n hG dX7_sure_27 rfl (Nat.le_of_ble_eq_true rfl) ?_
      refine J.iconst hG dX7_sure_28 (by decide) ?_
      refine J.istore hG dX7_sure_29 (Nat.le_of_ble_eq_true rfl) ?_
      have q5 := h5 s (by omega) (by omega)
      have lp : ∀ (k : Nat) (v : Int) (c : Int), 0 ≤ v → v + k = μ 2 s + 1 → (ff (fun v c => ff (fun d c => sst (mAg μ s v d) (mEY μ s y v d) c) 7 (-3) c) k v c = mSure μ s y) → J TM X 7 31 [some (aR 0), some (aI s), some (aI y), some (aI c), some (aI v), none, none] [] μ := by
        intro k
        induction k with
        | zero =>
          intro v c i0 i1 i3
          simp only [ff] at i3
          refine J.iload hG dX7_sure_31 rfl ?_
          refine J.aload_n hG dX7_sure_33 rfl rfl ?_
          refine J.getR hG ciX7 rfl 9 9 rfl (Nat.le_of_ble_eq_true rfl) rfl fl_X7_13 dX7_sure_34 ?_
          refine J.iload_n hG dX7_sure_37 rfl rfl ?_
          refine J.iald hG rfl (by omega) (by omega) dX7_sure_38 ?_
          refine J.icmp_gt hG 108 dX7_sure_39 rfl (fun h39 => ?_) (fun h39 => absurd h39 (by omega))
          refine J.iload_n hG dX7_sure_108 rfl rfl ?_
          refine J.iret hG dX7_sure_109 ?_
          rw [hX]; dsimp only
          exact ⟨by rw [if_pos (by omega), ← i3], rfl⟩
        | succ k ih =>
          intro v c i0 i1 i3
          rw [ff] at i3
          have ih0 := ih
          clear ih
          rename Nat => k_
          have lp2 : ∀ (k : Nat) (d : Int) (c2 : Int), -3 ≤ d → d + k = 4 → (ff (fun v c => ff (fun d c => sst (mAg μ s v d) (mEY μ s y v d) c) 7 (-3) c) k_ (v + 1) (ff (fun d c => sst (mAg μ s v d) (mEY μ s y v d) c) k d c2) = mSure μ s y) → J TM X 7 46 [some (aR 0), some (aI s), some (aI y), some (aI c2), some (aI v), some (aI d), none] [] μ := by
            intro k
            induction k with
            | zero =>
              intro d c2 i8 i9 j3
              simp only [ff] at j3
              refine J.iload hG dX7_sure_46 rfl ?_
              refine J.iconst hG dX7_sure_48 (by decide) ?_
              refine J.icmp_ge hG 102 dX7_sure_49 rfl (fun h49 => ?_) (fun h49 => absurd h49 (by omega))
              refine J.iinc hG dX7_sure_102 (Nat.le_of_ble_eq_true rfl) rfl (fun _ => (by omega)) ?_
              refine J.goto hG 31 dX7_sure_105 rfl ?_
              exact J.drop 5 (ih0 (v + 1) c2 (by omega) (by omega) j3)
            | succ k ih =>
              intro d c2 i8 i9 j3
              rw [ff] at j3
              have eb := mEY_b μ s y v d
              refine J.iload hG dX7_sure_46 rfl ?_
              refine J.iconst hG dX7_sure_48 (by decide) ?_
              refine J.icmp_ge hG 102 dX7_sure_49 rfl (fun h49 => absurd h49 (by omega)) (fun h49 => ?_)
              refine J.aload_n hG dX7_sure_52 rfl rfl ?_
              refine J.iload_n hG dX7_sure_53 rfl rfl ?_
              refine J.iload hG dX7_sure_54 rfl ?_
              refine J.iload hG dX7_sure_56 rfl ?_
              refine J.callV hG (X7_isAsBooked _ hB _ _ _ (by omega) (by omega) (by omega) hK) ok_X7_isAsBooked ml_X7_245 rfl rfl rfl rfl (Nat.le_of_ble_eq_true rfl) ⟨Nat.le_of_ble_eq_true rfl, Nat.le_of_ble_eq_true rfl⟩ dX7_sure_58 rfl (fun r1 μ1 hp1 => ?_)
              obtain ⟨rfl, rfl⟩ := hp1
              refine J.ifb_eq hG 96 dX7_sure_61 rfl (fun h61 => ?_) (fun h61 => ?_)
              · refine J.iinc hG dX7_sure_96 (Nat.le_of_ble_eq_true rfl) rfl (fun _ => (by omega)) ?_
                refine J.goto hG 46 dX7_sure_99 rfl ?_
                first
                  | (have e : sst (mAg μ s v d) (mEY μ s y v d) c2 = c2 := by unfold sst; rw [if_neg (by omega)]
                     rw [e] at j3; exact ih (d + 1) _ (by omega) (by omega) j3)
                  | (have e : sst (mAg μ s v d) (mEY μ s y v d) c2 = mEY μ s y v d := by unfold sst; rw [if_pos (by omega), if_pos (by omega)]
                     rw [e] at j3; exact J.drop 6 (ih (d + 1) _ (by omega) (by omega) j3))
                  | (have e : sst (mAg μ s v d) (mEY μ s y v d) c2 = -5 := by unfold sst; rw [if_pos (by omega), if_neg (by omega)]
                     rw [e] at j3; exact J.drop 6 (ih (d + 1) _ (by omega) (by omega) j3))
              · refine J.aload_n hG dX7_sure_64 rfl rfl ?_
                refine J.iload_n hG dX7_sure_65 rfl rfl ?_
                refine J.iload hG dX7_sure_66 rfl ?_
                refine J.iload hG dX7_sure_68 rfl ?_
                refine J.iload_n hG dX7_sure_70 rfl rfl ?_
                refine J.callV hG (X7_endBehind _ hB _ _ _ _ (by omega) (by omega) (by omega) (by omega)) ok_X7_endBehind ml_X7_242 rfl rfl rfl rfl (Nat.le_of_ble_eq_true rfl) ⟨Nat.le_of_ble_eq_true rfl, Nat.le_of_ble_eq_true rfl⟩ dX7_sure_71 rfl (fun r1 μ1 hp1 => ?_)
                obtain ⟨rfl, rfl⟩ := hp1
                refine J.istore hG dX7_sure_74 (Nat.le_of_ble_eq_true rfl) ?_
                refine J.iload_n hG dX7_sure_76 rfl rfl ?_
                refine J.bipush hG dX7_sure_77 (by decide) (by decide) ?_
                refine J.icmp_eq hG 88 dX7_sure_79 rfl (fun h79 => ?_) (fun h79 => ?_)
                · refine J.iload hG dX7_sure_88 rfl ?_
                  refine J.goto hG 95 dX7_sure_90 rfl ?_
                  refine J.istore_n hG dX7_sure_95 rfl (Nat.le_of_ble_eq_true rfl) ?_
                  refine J.iinc hG dX7_sure_96 (Nat.le_of_ble_eq_true rfl) rfl (fun _ => (by omega)) ?_
                  refine J.goto hG 46 dX7_sure_99 rfl ?_
                  first
                    | (have e : sst (mAg μ s v d) (mEY μ s y v d) c2 = c2 := by unfold sst; rw [if_neg (by omega)]
                       rw [e] at j3; exact ih (d + 1) _ (by omega) (by omega) j3)
                    | (have e : sst (mAg μ s v d) (mEY μ s y v d) c2 = mEY μ s y v d := by unfold sst; rw [if_pos (by omega), if_pos (by omega)]
                       rw [e] at j3; exact J.drop 6 (ih (d + 1) _ (by omega) (by omega) j3))
                    | (have e : sst (mAg μ s v d) (mEY μ s y v d) c2 = -5 := by unfold sst; rw [if_pos (by omega), if_neg (by omega)]
                       rw [e] at j3; exact J.drop 6 (ih (d + 1) _ (by omega) (by omega) j3))
                · refine J.iload_n hG dX7_sure_82 rfl rfl ?_
                  refine J.iload hG dX7_sure_83 rfl ?_
                  refine J.icmp_ne hG 93 dX7_sure_85 rfl (fun h85 => ?_) (fun h85 => ?_)
                  · refine J.bipush hG dX7_sure_93 (by decide) (by decide) ?_
                    refine J.istore_n hG dX7_sure_95 rfl (Nat.le_of_ble_eq_true rfl) ?_
                    refine J.iinc hG dX7_sure_96 (Nat.le_of_ble_eq_true rfl) rfl (fun _ => (by omega)) ?_
                    refine J.goto hG 46 dX7_sure_99 rfl ?_
                    first
                      | (have e : sst (mAg μ s v d) (mEY μ s y v d) c2 = c2 := by unfold sst; rw [if_neg (by omega)]
                         rw [e] at j3; exact ih (d + 1) _ (by omega) (by omega) j3)
                      | (have e : sst (mAg μ s v d) (mEY μ s y v d) c2 = mEY μ s y v d := by unfold sst; rw [if_pos (by omega), if_pos (by omega)]
                         rw [e] at j3; exact J.drop 6 (ih (d + 1) _ (by omega) (by omega) j3))
                      | (have e : sst (mAg μ s v d) (mEY μ s y v d) c2 = -5 := by unfold sst; rw [if_pos (by omega), if_neg (by omega)]
                         rw [e] at j3; exact J.drop 6 (ih (d + 1) _ (by omega) (by omega) j3))
                  · refine J.iload hG dX7_sure_88 rfl ?_
                    refine J.goto hG 95 dX7_sure_90 rfl ?_
                    refine J.istore_n hG dX7_sure_95 rfl (Nat.le_of_ble_eq_true rfl) ?_
                    refine J.iinc hG dX7_sure_96 (Nat.le_of_ble_eq_true rfl) rfl (fun _ => (by omega)) ?_
                    refine J.goto hG 46 dX7_sure_99 rfl ?_
                    first
                      | (have e : sst (mAg μ s v d) (mEY μ s y v d) c2 = c2 := by unfold sst; rw [if_neg (by omega)]
                         rw [e] at j3; exact ih (d + 1) _ (by omega) (by omega) j3)
                      | (have e : sst (mAg μ s v d) (mEY μ s y v d) c2 = mEY μ s y v d := by unfold sst; rw [if_pos (by omega), if_pos (by omega)]
                         rw [e] at j3; exact J.drop 6 (ih (d + 1) _ (by omega) (by omega) j3))
                      | (have e : sst (mAg μ s v d) (mEY μ s y v d) c2 = -5 := by unfold sst; rw [if_pos (by omega), if_neg (by omega)]
                         rw [e] at j3; exact J.drop 6 (ih (d + 1) _ (by omega) (by omega) j3))
          refine J.iload hG dX7_sure_31 rfl ?_
          refine J.aload_n hG dX7_sure_33 rfl rfl ?_
          refine J.getR hG ciX7 rfl 9 9 rfl (Nat.le_of_ble_eq_true rfl) rfl fl_X7_13 dX7_sure_34 ?_
          refine J.iload_n hG dX7_sure_37 rfl rfl ?_
          refine J.iald hG rfl (by omega) (by omega) dX7_sure_38 ?_
          refine J.icmp_gt hG 108 dX7_sure_39 rfl (fun h39 => absurd h39 (by omega)) (fun h39 => ?_)
          refine J.bipush hG dX7_sure_42 (by decide) (by decide) ?_
          refine J.istore hG dX7_sure_44 (Nat.le_of_ble_eq_true rfl) ?_
          exact lp2 7 (-3) c (Int.le_refl _) (by omega) i3
      exact lp (μ 2 s + 1).toNat 0 _ (Int.le_refl _) (by omega) rfl
    · refine J.iconst hG dX7_sure_23 (by decide) ?_
      refine J.iret hG dX7_sure_24 ?_
      rw [hX]; dsimp only
      rw [if_neg (by omega)]
      exact ⟨rfl, rfl⟩

set_option maxRecDepth 100000 in
set_option maxHeartbeats 4000000 in
theorem X7_isClash (μ : Mem) (hB : MB μ) (a b : Int) (ha : 0 ≤ a ∧ a < μ 0 14) (hb : 0 ≤ b ∧ b < μ 0 14) : CT TM md_X7_isClash [aR 0, aI a, aI b] μ (fun rv μ1 => rv = some (aI (if ¬ mOp μ a b = -9 then 1 else 0)) ∧ μ = μ1) := by
  refine CT.of (Nat.le_of_ble_eq_true rfl) (by decide) rfl (Nat.le_of_ble_eq_true rfl) (fun X hG hX => ?_)
  have hG : G TM X RX7 cX7_isClash 7 2 46 (some .boolean) := hG
  show J TM X 7 0 [some (aR 0), some (aI a), some (aI b), none, none, none, none] [] μ
  have hB2 := hB
  obtain ⟨h1, h2, h3, h4, h5, h6⟩ := hB2
  have q5 := h5 a ha.1 ha.2
  have q6 := h5 b hb.1 hb.2
  have lp : ∀ (k : Nat) (v : Int) (z : Int), 0 ≤ v → v + k = μ 2 a + 1 → (z = 0 → fs3 (mO μ a b) k v = mOp μ a b) → (z = 1 → ¬ mOp μ a b = -9) → (z = 0 ∨ z = 1) → (μ 2 a = μ 2 b) → J TM X 7 5 [some (aR 0), some (aI a), some (aI b), some (aI z), some (aI v), none, none] [] μ := by
    intro k
    induction k with
    | zero =>
      intro v z i0 i1 i2 i5 i3 i4
      rw [fs3] at i2
      refine J.iload hG dX7_isClash_5 rfl ?_
      refine J.aload_n hG dX7_isClash_7 rfl rfl ?_
      refine J.getR hG ciX7 rfl 9 9 rfl (Nat.le_of_ble_eq_true rfl) rfl fl_X7_13 dX7_isClash_8 ?_
      refine J.iload_n hG dX7_isClash_11 rfl rfl ?_
      refine J.iald hG rfl (by omega) (by omega) dX7_isClash_12 ?_
      refine J.icmp_gt hG 95 dX7_isClash_13 rfl (fun h13 => ?_) (fun h13 => absurd h13 (by omega))
      refine J.iload_n hG dX7_isClash_95 rfl rfl ?_
      refine J.zret hG (by first | exact Or.inl rfl | exact Or.inr rfl | assumption | (split <;> first | exact Or.inl rfl | exact Or.inr rfl)) dX7_isClash_96 ?_
      rw [hX]; dsimp only
      refine ⟨?_, rfl⟩
      rcases i3 with rfl | rfl
      · rw [if_neg (fun w => w (i2 rfl).symm)]
      · rw [if_pos (i5 rfl)]
    | succ k ih =>
      intro v z i0 i1 i2 i5 i3 i4
      have q5 := h5 a ha.1 ha.2
      have eb1 := EB_bound (μ 7 (2 * a)) (μ 7 (2 * a + 1)) (μ 2 a) v
      refine J.iload hG dX7_isClash_5 rfl ?_
      refine J.aload_n hG dX7_isClash_7 rfl rfl ?_
      refine J.getR hG ciX7 rfl 9 9 rfl (Nat.le_of_ble_eq_true rfl) rfl fl_X7_13 dX7_isClash_8 ?_
      refine J.iload_n hG dX7_isClash_11 rfl rfl ?_
      refine J.iald hG rfl (by omega) (by omega) dX7_isClash_12 ?_
      refine J.icmp_gt hG 95 dX7_isClash_13 rfl (fun h13 => absurd h13 (by omega)) (fun h13 => ?_)
      refine J.aload_n hG dX7_isClash_16 rfl rfl ?_
      refine J.getR hG ciX7 rfl 9 9 rfl (Nat.le_of_ble_eq_true rfl) rfl fl_X7_13 dX7_isClash_17 ?_
      refine J.iload_n hG dX7_isClash_20 rfl rfl ?_
      refine J.iald hG rfl (by omega) (by omega) dX7_isClash_21 ?_
      refine J.aload_n hG dX7_isClash_22 rfl rfl ?_
      refine J.getR hG ciX7 rfl 9 9 rfl (Nat.le_of_ble_eq_true rfl) rfl fl_X7_13 dX7_isClash_23 ?_
      refine J.iload_n hG dX7_isClash_26 rfl rfl ?_
      refine J.iald hG rfl (by omega) (by omega) dX7_isClash_27 ?_
      refine J.icmp_ne hG 95 dX7_isClash_28 rfl (fun h28 => absurd h28 (by omega)) (fun h28 => ?_)
      refine J.aload_n hG dX7_isClash_31 rfl rfl ?_
      refine J.aload_n hG dX7_isClash_32 rfl rfl ?_
      refine J.getR hG ciX7 rfl 22 22 rfl (Nat.le_of_ble_eq_true rfl) rfl fl_X7_28 dX7_isClash_33 ?_
      refine J.iload_n hG dX7_isClash_36 rfl rfl ?_
      refine J.iload hG dX7_isClash_37 rfl ?_
      refine J.callV hG (X7_endOf _ _ rfl _ _ (by omega) (by omega)) ok_X7_endOf ml_X7_167 rfl rfl rfl rfl (Nat.le_of_ble_eq_true rfl) ⟨Nat.le_of_ble_eq_true rfl, Nat.le_of_ble_eq_true rfl⟩ dX7_isClash_39 rfl (fun r1 μ1 hp1 => ?_)
      obtain ⟨rfl, rfl⟩ := hp1
      refine J.istore hG dX7_isClash_42 (Nat.le_of_ble_eq_true rfl) ?_
      refine J.aload_n hG dX7_isClash_44 rfl rfl ?_
      refine J.aload_n hG dX7_isClash_45 rfl rfl ?_
      refine J.getR hG ciX7 rfl 22 22 rfl (Nat.le_of_ble_eq_true rfl) rfl fl_X7_28 dX7_isClash_46 ?_
      refine J.iload_n hG dX7_isClash_49 rfl rfl ?_
      refine J.iload hG dX7_isClash_50 rfl ?_
      refine J.callV hG (X7_endOf _ _ rfl _ _ (by omega) (by omega)) ok_X7_endOf ml_X7_167 rfl rfl rfl rfl (Nat.le_of_ble_eq_true rfl) ⟨Nat.le_of_ble_eq_true rfl, Nat.le_of_ble_eq_true rfl⟩ dX7_isClash_52 rfl (fun r1 μ1 hp1 => ?_)
      obtain ⟨rfl, rfl⟩ := hp1
      refine J.istore hG dX7_isClash_55 (Nat.le_of_ble_eq_true rfl) ?_
      refine J.iload_n hG dX7_isClash_57 rfl rfl ?_
      refine J.if_ne hG 83 dX7_isClash_58 rfl (fun h58 => ?_) (fun h58 => ?_)
      · refine J.iconst hG dX7_isClash_83 (by decide) ?_
        refine J.goto hG 88 dX7_isClash_84 rfl ?_
        refine J.istore_n hG dX7_isClash_88 rfl (Nat.le_of_ble_eq_true rfl) ?_
        refine J.iinc hG dX7_isClash_89 (Nat.le_of_ble_eq_true rfl) rfl (fun _ => (by omega)) ?_
        refine J.goto hG 5 dX7_isClash_92 rfl ?_
        first
          | (have e : ¬ mO μ a b v = 3 := by unfold mO; rw [if_neg (by omega)]; omega
             have hz : z = 0 := by omega
             exact J.drop 5 (J.drop 6 (ih (v + 1) 0 (by omega) (by omega) (fun _ => by rw [← i2 hz, fs3, if_neg e]) (fun w => absurd w (by decide)) (Or.inl rfl) i4)))
          | (have e : mO μ a b v = 3 := if_pos (by omega)
             have e2 : v = mOp μ a b := by rw [← i2 (by omega), fs3, if_pos e]
             exact J.drop 5 (J.drop 6 (ih (v + 1) 1 (by omega) (by omega) (fun w => absurd w (by decide)) (fun _ => by omega) (Or.inr rfl) i4)))
          | (have hz : z = 1 := by omega
             exact J.drop 5 (J.drop 6 (ih (v + 1) 1 (by omega) (by omega) (fun w => absurd w (by decide)) (fun _ => i5 hz) (Or.inr rfl) i4)))
      · refine J.iload hG dX7_isClash_61 rfl ?_
        refine J.if_ne hG 72 dX7_isClash_63 rfl (fun h63 => ?_) (fun h63 => ?_)
        · refine J.iload hG dX7_isClash_72 rfl ?_
          refine J.iconst hG dX7_isClash_74 (by decide) ?_
          refine J.icmp_ne hG 87 dX7_isClash_75 rfl (fun h75 => ?_) (fun h75 => ?_)
          · refine J.iconst hG dX7_isClash_87 (by decide) ?_
            refine J.istore_n hG dX7_isClash_88 rfl (Nat.le_of_ble_eq_true rfl) ?_
            refine J.iinc hG dX7_isClash_89 (Nat.le_of_ble_eq_true rfl) rfl (fun _ => (by omega)) ?_
            refine J.goto hG 5 dX7_isClash_92 rfl ?_
            first
              | (have e : ¬ mO μ a b v = 3 := by unfold mO; rw [if_neg (by omega)]; omega
                 have hz : z = 0 := by omega
                 exact J.drop 5 (J.drop 6 (ih (v + 1) 0 (by omega) (by omega) (fun _ => by rw [← i2 hz, fs3, if_neg e]) (fun w => absurd w (by decide)) (Or.inl rfl) i4)))
              | (have e : mO μ a b v = 3 := if_pos (by omega)
                 have e2 : v = mOp μ a b := by rw [← i2 (by omega), fs3, if_pos e]
                 exact J.drop 5 (J.drop 6 (ih (v + 1) 1 (by omega) (by omega) (fun w => absurd w (by decide)) (fun _ => by omega) (Or.inr rfl) i4)))
              | (have hz : z = 1 := by omega
                 exact J.drop 5 (J.drop 6 (ih (v + 1) 1 (by omega) (by omega) (fun w => absurd w (by decide)) (fun _ => i5 hz) (Or.inr rfl) i4)))
          · refine J.iload hG dX7_isClash_78 rfl ?_
            refine J.if_ne hG 87 dX7_isClash_80 rfl (fun h80 => ?_) (fun h80 => ?_)
            · refine J.iconst hG dX7_isClash_87 (by decide) ?_
              refine J.istore_n hG dX7_isClash_88 rfl (Nat.le_of_ble_eq_true rfl) ?_
              refine J.iinc hG dX7_isClash_89 (Nat.le_of_ble_eq_true rfl) rfl (fun _ => (by omega)) ?_
              refine J.goto hG 5 dX7_isClash_92 rfl ?_
              first
                | (have e : ¬ mO μ a b v = 3 := by unfold mO; rw [if_neg (by omega)]; omega
                   have hz : z = 0 := by omega
                   exact J.drop 5 (J.drop 6 (ih (v + 1) 0 (by omega) (by omega) (fun _ => by rw [← i2 hz, fs3, if_neg e]) (fun w => absurd w (by decide)) (Or.inl rfl) i4)))
                | (have e : mO μ a b v = 3 := if_pos (by omega)
                   have e2 : v = mOp μ a b := by rw [← i2 (by omega), fs3, if_pos e]
                   exact J.drop 5 (J.drop 6 (ih (v + 1) 1 (by omega) (by omega) (fun w => absurd w (by decide)) (fun _ => by omega) (Or.inr rfl) i4)))
                | (have hz : z = 1 := by omega
                   exact J.drop 5 (J.drop 6 (ih (v + 1) 1 (by omega) (by omega) (fun w => absurd w (by decide)) (fun _ => i5 hz) (Or.inr rfl) i4)))
            · refine J.iconst hG dX7_isClash_83 (by decide) ?_
              refine J.goto hG 88 dX7_isClash_84 rfl ?_
              refine J.istore_n hG dX7_isClash_88 rfl (Nat.le_of_ble_eq_true rfl) ?_
              refine J.iinc hG dX7_isClash_89 (Nat.le_of_ble_eq_true rfl) rfl (fun _ => (by omega)) ?_
              refine J.goto hG 5 dX7_isClash_92 rfl ?_
              first
                | (have e : ¬ mO μ a b v = 3 := by unfold mO; rw [if_neg (by omega)]; omega
                   have hz : z = 0 := by omega
                   exact J.drop 5 (J.drop 6 (ih (v + 1) 0 (by omega) (by omega) (fun _ => by rw [← i2 hz, fs3, if_neg e]) (fun w => absurd w (by decide)) (Or.inl rfl) i4)))
                | (have e : mO μ a b v = 3 := if_pos (by omega)
                   have e2 : v = mOp μ a b := by rw [← i2 (by omega), fs3, if_pos e]
                   exact J.drop 5 (J.drop 6 (ih (v + 1) 1 (by omega) (by omega) (fun w => absurd w (by decide)) (fun _ => by omega) (Or.inr rfl) i4)))
                | (have hz : z = 1 := by omega
                   exact J.drop 5 (J.drop 6 (ih (v + 1) 1 (by omega) (by omega) (fun w => absurd w (by decide)) (fun _ => i5 hz) (Or.inr rfl) i4)))
        · refine J.iload hG dX7_isClash_66 rfl ?_
          refine J.iconst hG dX7_isClash_68 (by decide) ?_
          refine J.icmp_eq hG 83 dX7_isClash_69 rfl (fun h69 => ?_) (fun h69 => ?_)
          · refine J.iconst hG dX7_isClash_83 (by decide) ?_
            refine J.goto hG 88 dX7_isClash_84 rfl ?_
            refine J.istore_n hG dX7_isClash_88 rfl (Nat.le_of_ble_eq_true rfl) ?_
            refine J.iinc hG dX7_isClash_89 (Nat.le_of_ble_eq_true rfl) rfl (fun _ => (by omega)) ?_
            refine J.goto hG 5 dX7_isClash_92 rfl ?_
            first
              | (have e : ¬ mO μ a b v = 3 := by unfold mO; rw [if_neg (by omega)]; omega
                 have hz : z = 0 := by omega
                 exact J.drop 5 (J.drop 6 (ih (v + 1) 0 (by omega) (by omega) (fun _ => by rw [← i2 hz, fs3, if_neg e]) (fun w => absurd w (by decide)) (Or.inl rfl) i4)))
              | (have e : mO μ a b v = 3 := if_pos (by omega)
                 have e2 : v = mOp μ a b := by rw [← i2 (by omega), fs3, if_pos e]
                 exact J.drop 5 (J.drop 6 (ih (v + 1) 1 (by omega) (by omega) (fun w => absurd w (by decide)) (fun _ => by omega) (Or.inr rfl) i4)))
              | (have hz : z = 1 := by omega
                 exact J.drop 5 (J.drop 6 (ih (v + 1) 1 (by omega) (by omega) (fun w => absurd w (by decide)) (fun _ => i5 hz) (Or.inr rfl) i4)))
          · refine J.iload hG dX7_isClash_72 rfl ?_
            refine J.iconst hG dX7_isClash_74 (by decide) ?_
            refine J.icmp_ne hG 87 dX7_isClash_75 rfl (fun h75 => ?_) (fun h75 => ?_)
            · refine J.iconst hG dX7_isClash_87 (by decide) ?_
              refine J.istore_n hG dX7_isClash_88 rfl (Nat.le_of_ble_eq_true rfl) ?_
              refine J.iinc hG dX7_isClash_89 (Nat.le_of_ble_eq_true rfl) rfl (fun _ => (by omega)) ?_
              refine J.goto hG 5 dX7_isClash_92 rfl ?_
              first
                | (have e : ¬ mO μ a b v = 3 := by unfold mO; rw [if_neg (by omega)]; omega
                   have hz : z = 0 := by omega
                   exact J.drop 5 (J.drop 6 (ih (v + 1) 0 (by omega) (by omega) (fun _ => by rw [← i2 hz, fs3, if_neg e]) (fun w => absurd w (by decide)) (Or.inl rfl) i4)))
                | (have e : mO μ a b v = 3 := if_pos (by omega)
                   have e2 : v = mOp μ a b := by rw [← i2 (by omega), fs3, if_pos e]
                   exact J.drop 5 (J.drop 6 (ih (v + 1) 1 (by omega) (by omega) (fun w => absurd w (by decide)) (fun _ => by omega) (Or.inr rfl) i4)))
                | (have hz : z = 1 := by omega
                   exact J.drop 5 (J.drop 6 (ih (v + 1) 1 (by omega) (by omega) (fun w => absurd w (by decide)) (fun _ => i5 hz) (Or.inr rfl) i4)))
            · refine J.iload hG dX7_isClash_78 rfl ?_
              refine J.if_ne hG 87 dX7_isClash_80 rfl (fun h80 => ?_) (fun h80 => ?_)
              · refine J.iconst hG dX7_isClash_87 (by decide) ?_
                refine J.istore_n hG dX7_isClash_88 rfl (Nat.le_of_ble_eq_true rfl) ?_
                refine J.iinc hG dX7_isClash_89 (Nat.le_of_ble_eq_true rfl) rfl (fun _ => (by omega)) ?_
                refine J.goto hG 5 dX7_isClash_92 rfl ?_
                first
                  | (have e : ¬ mO μ a b v = 3 := by unfold mO; rw [if_neg (by omega)]; omega
                     have hz : z = 0 := by omega
                     exact J.drop 5 (J.drop 6 (ih (v + 1) 0 (by omega) (by omega) (fun _ => by rw [← i2 hz, fs3, if_neg e]) (fun w => absurd w (by decide)) (Or.inl rfl) i4)))
                  | (have e : mO μ a b v = 3 := if_pos (by omega)
                     have e2 : v = mOp μ a b := by rw [← i2 (by omega), fs3, if_pos e]
                     exact J.drop 5 (J.drop 6 (ih (v + 1) 1 (by omega) (by omega) (fun w => absurd w (by decide)) (fun _ => by omega) (Or.inr rfl) i4)))
                  | (have hz : z = 1 := by omega
                     exact J.drop 5 (J.drop 6 (ih (v + 1) 1 (by omega) (by omega) (fun w => absurd w (by decide)) (fun _ => i5 hz) (Or.inr rfl) i4)))
              · refine J.iconst hG dX7_isClash_83 (by decide) ?_
                refine J.goto hG 88 dX7_isClash_84 rfl ?_
                refine J.istore_n hG dX7_isClash_88 rfl (Nat.le_of_ble_eq_true rfl) ?_
                refine J.iinc hG dX7_isClash_89 (Nat.le_of_ble_eq_true rfl) rfl (fun _ => (by omega)) ?_
                refine J.goto hG 5 dX7_isClash_92 rfl ?_
                first
                  | (have e : ¬ mO μ a b v = 3 := by unfold mO; rw [if_neg (by omega)]; omega
                     have hz : z = 0 := by omega
                     exact J.drop 5 (J.drop 6 (ih (v + 1) 0 (by omega) (by omega) (fun _ => by rw [← i2 hz, fs3, if_neg e]) (fun w => absurd w (by decide)) (Or.inl rfl) i4)))
                  | (have e : mO μ a b v = 3 := if_pos (by omega)
                     have e2 : v = mOp μ a b := by rw [← i2 (by omega), fs3, if_pos e]
                     exact J.drop 5 (J.drop 6 (ih (v + 1) 1 (by omega) (by omega) (fun w => absurd w (by decide)) (fun _ => by omega) (Or.inr rfl) i4)))
                  | (have hz : z = 1 := by omega
                     exact J.drop 5 (J.drop 6 (ih (v + 1) 1 (by omega) (by omega) (fun w => absurd w (by decide)) (fun _ => i5 hz) (Or.inr rfl) i4)))
  refine J.iconst hG dX7_isClash_0 (by decide) ?_
  refine J.istore_n hG dX7_isClash_1 rfl (Nat.le_of_ble_eq_true rfl) ?_
  refine J.iconst hG dX7_isClash_2 (by decide) ?_
  refine J.istore hG dX7_isClash_3 (Nat.le_of_ble_eq_true rfl) ?_
  by_cases hr : μ 2 a = μ 2 b
  · exact lp (μ 2 a + 1).toNat 0 0 (Int.le_refl _) (by omega) (fun _ => by unfold mOp; rw [if_pos hr]) (fun w => absurd w (by decide)) (Or.inl rfl) hr
  · refine J.iload hG dX7_isClash_5 rfl ?_
    refine J.aload_n hG dX7_isClash_7 rfl rfl ?_
    refine J.getR hG ciX7 rfl 9 9 rfl (Nat.le_of_ble_eq_true rfl) rfl fl_X7_13 dX7_isClash_8 ?_
    refine J.iload_n hG dX7_isClash_11 rfl rfl ?_
    refine J.iald hG rfl (by omega) (by omega) dX7_isClash_12 ?_
    refine J.icmp_gt hG 95 dX7_isClash_13 rfl (fun h13 => absurd h13 (by omega)) (fun h13 => ?_)
    refine J.aload_n hG dX7_isClash_16 rfl rfl ?_
    refine J.getR hG ciX7 rfl 9 9 rfl (Nat.le_of_ble_eq_true rfl) rfl fl_X7_13 dX7_isClash_17 ?_
    refine J.iload_n hG dX7_isClash_20 rfl rfl ?_
    refine J.iald hG rfl (by omega) (by omega) dX7_isClash_21 ?_
    refine J.aload_n hG dX7_isClash_22 rfl rfl ?_
    refine J.getR hG ciX7 rfl 9 9 rfl (Nat.le_of_ble_eq_true rfl) rfl fl_X7_13 dX7_isClash_23 ?_
    refine J.iload_n hG dX7_isClash_26 rfl rfl ?_
    refine J.iald hG rfl (by omega) (by omega) dX7_isClash_27 ?_
    refine J.icmp_ne hG 95 dX7_isClash_28 rfl (fun h28 => ?_) (fun h28 => absurd h28 (by omega))
    refine J.iload_n hG dX7_isClash_95 rfl rfl ?_
    refine J.zret hG (by first | exact Or.inl rfl | exact Or.inr rfl | assumption | (split <;> first | exact Or.inl rfl | exact Or.inr rfl)) dX7_isClash_96 ?_
    rw [hX]; dsimp only
    exact ⟨by unfold mOp; rw [if_neg hr]; rfl, rfl⟩

set_option maxRecDepth 100000 in
set_option maxHeartbeats 4000000 in
theorem X7_clash (μ0 μ : Mem) (hμ : μ = th μ0) (hB : MB μ) : CT TM md_X7_clash [aR 0] μ0 (fun rv μ1 => rv = some (aI (mClash μ)) ∧ μ = μ1) := by
  refine CT.of (Nat.le_of_ble_eq_true rfl) (by decide) rfl (Nat.le_of_ble_eq_true rfl) (fun X hG hX => ?_)
  have hG : G TM X RX7 cX7_clash 3 3 72 (some .int) := hG
  show J TM X 3 0 [some (aR 0), none, none] [] μ0
  refine J.aload_n hG dX7_clash_0 rfl rfl ?_
  refine J.iconst hG dX7_clash_1 (by decide) ?_
  refine J.putI hG ciX7 rfl 0 0 rfl (Nat.le_of_ble_eq_true rfl) rfl fl_X7_75 rfl rfl dX7_clash_2 ?_
  show J TM X 3 5 [some (aR 0), none, none] [] (th μ0)
  rw [← hμ]
  have hB2 := hB
  obtain ⟨h1, h2, h3, h4, h5, h6⟩ := hB2
  refine J.iconst hG dX7_clash_5 (by decide) ?_
  refine J.istore_n hG dX7_clash_6 rfl (Nat.le_of_ble_eq_true rfl) ?_
  have lp : ∀ (k : Nat) (a : Int), 0 ≤ a → a + k = μ 0 14 → (fc (fun a => fs3 (fun b => if mOp μ a b = -9 then 0 else 3) (μ 0 14 - (a + 1)).toNat (a + 1)) k a = mClash μ) → J TM X 3 7 [some (aR 0), some (aI a), none] [] μ := by
    intro k
    induction k with
    | zero =>
      intro a  i0 i1 i2
      refine J.iload_n hG dX7_clash_7 rfl rfl ?_
      refine J.aload_n hG dX7_clash_8 rfl rfl ?_
      refine J.getI hG ciX7 rfl 14 14 rfl (Nat.le_of_ble_eq_true rfl) rfl fl_X7_141 dX7_clash_9 ?_
      refine J.icmp_ge hG 55 dX7_clash_12 rfl (fun h12 => ?_) (fun h12 => absurd h12 (by omega))
      refine J.bipush hG dX7_clash_55 (by decide) (by decide) ?_
      refine J.iret hG dX7_clash_57 ?_
      rw [hX]; dsimp only
      exact ⟨by rw [← i2]; rfl, rfl⟩
    | succ k ih =>
      intro a  i0 i1 i2
      rw [fc] at i2
      have ih0 := ih
      clear ih
      have lp2 : ∀ (k : Nat) (b : Int), a + 1 ≤ b → b + k = μ 0 14 → (fs3 (fun b => if mOp μ a b = -9 then 0 else 3) k b = fs3 (fun b => if mOp μ a b = -9 then 0 else 3) (μ 0 14 - (a + 1)).toNat (a + 1)) → J TM X 3 19 [some (aR 0), some (aI a), some (aI b)] [] μ := by
        intro k
        induction k with
        | zero =>
          intro b  i8 i9 j2
          refine J.iload_n hG dX7_clash_19 rfl rfl ?_
          refine J.aload_n hG dX7_clash_20 rfl rfl ?_
          refine J.getI hG ciX7 rfl 14 14 rfl (Nat.le_of_ble_eq_true rfl) rfl fl_X7_141 dX7_clash_21 ?_
          refine J.icmp_ge hG 49 dX7_clash_24 rfl (fun h24 => ?_) (fun h24 => absurd h24 (by omega))
          refine J.iinc hG dX7_clash_49 (Nat.le_of_ble_eq_true rfl) rfl (fun _ => (by omega)) ?_
          refine J.goto hG 7 dX7_clash_52 rfl ?_
          rw [← j2, fs3, if_pos rfl] at i2
          exact J.drop 2 (ih0 (a + 1) (by omega) (by omega) i2)
        | succ k ih =>
          intro b  i8 i9 j2
          rw [fs3] at j2
          refine J.iload_n hG dX7_clash_19 rfl rfl ?_
          refine J.aload_n hG dX7_clash_20 rfl rfl ?_
          refine J.getI hG ciX7 rfl 14 14 rfl (Nat.le_of_ble_eq_true rfl) rfl fl_X7_141 dX7_clash_21 ?_
          refine J.icmp_ge hG 49 dX7_clash_24 rfl (fun h24 => absurd h24 (by omega)) (fun h24 => ?_)
          refine J.aload_n hG dX7_clash_27 rfl rfl ?_
          refine J.iload_n hG dX7_clash_28 rfl rfl ?_
          refine J.iload_n hG dX7_clash_29 rfl rfl ?_
          refine J.callV hG (X7_isClash _ hB _ _ (by omega) (by omega)) ok_X7_isClash ml_X7_248 rfl rfl rfl rfl (Nat.le_of_ble_eq_true rfl) ⟨Nat.le_of_ble_eq_true rfl, Nat.le_of_ble_eq_true rfl⟩ dX7_clash_30 rfl (fun r1 μ1 hp1 => ?_)
          obtain ⟨rfl, rfl⟩ := hp1
          refine J.ifb_eq hG 43 dX7_clash_33 rfl (fun h33 => ?_) (fun h33 => ?_)
          · refine J.iinc hG dX7_clash_43 (Nat.le_of_ble_eq_true rfl) rfl (fun _ => (by omega)) ?_
            refine J.goto hG 19 dX7_clash_46 rfl ?_
            have e : ¬ (if mOp μ a b = -9 then (0 : Int) else 3) = 3 := by rw [if_pos (by omega)]; omega
            rw [if_neg e] at j2
            exact ih (b + 1) (by omega) (by omega) j2
          · refine J.bipush hG dX7_clash_36 (by decide) (by decide) ?_
            refine J.iload_n hG dX7_clash_38 rfl rfl ?_
            refine J.imul hG dX7_clash_39 (fun _ _ => (by omega)) ?_
            refine J.iload_n hG dX7_clash_40 rfl rfl ?_
            refine J.iadd hG dX7_clash_41 (fun _ _ => (by omega)) ?_
            refine J.iret hG dX7_clash_42 ?_
            rw [hX]; dsimp only
            rw [if_neg h33, if_pos rfl] at j2
            rw [← j2, if_neg (by omega)] at i2
            exact ⟨by rw [← i2], rfl⟩
      refine J.iload_n hG dX7_clash_7 rfl rfl ?_
      refine J.aload_n hG dX7_clash_8 rfl rfl ?_
      refine J.getI hG ciX7 rfl 14 14 rfl (Nat.le_of_ble_eq_true rfl) rfl fl_X7_141 dX7_clash_9 ?_
      refine J.icmp_ge hG 55 dX7_clash_12 rfl (fun h12 => absurd h12 (by omega)) (fun h12 => ?_)
      refine J.iload_n hG dX7_clash_15 rfl rfl ?_
      refine J.iconst hG dX7_clash_16 (by decide) ?_
      refine J.iadd hG dX7_clash_17 (fun _ _ => (by omega)) ?_
      refine J.istore_n hG dX7_clash_18 rfl (Nat.le_of_ble_eq_true rfl) ?_
      exact lp2 (μ 0 14 - (a + 1)).toNat (a + 1) (Int.le_refl _) (by omega) rfl
  exact lp (μ 0 14).toNat 0 (Int.le_refl _) (by omega) rfl


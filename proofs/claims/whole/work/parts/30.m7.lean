def mPl (μ : Mem) : Prop := ∀ p : Int, 0 ≤ p → p < μ 0 16 → 0 ≤ μ 6 p ∧ μ 6 p ≤ 60
def mAp (μ : Mem) (a b : Int) : Int := if 0 ≤ μ 6 a - μ 6 b then μ 6 a - μ 6 b else 0 - (μ 6 a - μ 6 b)
def mJ (μ : Mem) (s a b : Int) : Int := if ¬ a = b ∧ mAp μ a b ≤ μ 2 s ∧ ¬ mEn μ 7 s (mAp μ a b) = 3 then 1 else 0
def rqM (R : Int → Int → Int) (p n q : Int) (f : Int → Int) : Int → Int := if f p = n ∧ f q = -9 ∧ ¬ R p q = 0 then (fun z => if z = q then n + 1 else f z) else f
theorem ff_rqM {R : Int → Int → Int} {p n : Int} (hn : 0 ≤ n) : ∀ (k : Nat) (q : Int) (f : Int → Int), ff (rqM R p n) k q f = if f p = n then ff (rq R p n) k q f else f
  | 0, _, f => by simp [ff]
  | k + 1, q, f => by
    rw [ff, ff_rqM hn k (q + 1)]
    by_cases h : f p = n
    · have e : rqM R p n q f = rq R p n q f := by
        unfold rqM rq
        by_cases h2 : f q = -9 ∧ ¬ R p q = 0
        · rw [if_pos ⟨h, h2⟩, if_pos h2]
        · rw [if_neg (fun w => h2 w.2), if_neg h2]
      have e2 : rq R p n q f p = n := rq_keep hn 1 q f h
      rw [e, if_pos e2, if_pos h, ff]
    · have e : rqM R p n q f = f := by unfold rqM; rw [if_neg (fun w => h w.1)]
      rw [e, if_neg h, if_neg h]
theorem BF_P (P : Int → Prop) (h9 : P (-9)) (hP : ∀ n, 0 ≤ n → P n) (R : Int → Int → Int) (np to : Int) : ∀ z, P (BF R np to z) := by
  have A : ∀ (p n : Int), 0 ≤ n → ∀ (k : Nat) (q : Int) (f : Int → Int), (∀ z, P (f z)) → ∀ z, P (ff (rq R p n) k q f z) := by
    intro p n hn k
    induction k with
    | zero => intro q f h z; exact h z
    | succ k ih =>
      intro q f h z
      rw [ff]
      refine ih (q + 1) _ (fun y => ?_) z
      unfold rq
      split
      · dsimp only
        split
        · exact hP _ (by omega)
        · exact h y
      · exact h y
  have B : ∀ (n : Int), 0 ≤ n → ∀ (k : Nat) (q : Int) (f : Int → Int), (∀ z, P (f z)) → ∀ z, P (ff (rmid R np n) k q f z) := by
    intro n hn k
    induction k with
    | zero => intro q f h z; exact h z
    | succ k ih =>
      intro q f h z
      rw [ff]
      refine ih (q + 1) _ (fun y => ?_) z
      unfold rmid
      split
      · exact A _ _ hn _ _ _ h y
      · exact h y
  have C : ∀ (k : Nat) (q : Int) (f : Int → Int), 0 ≤ q → (∀ z, P (f z)) → ∀ z, P (ff (rout R np) k q f z) := by
    intro k
    induction k with
    | zero => intro q f _ h z; exact h z
    | succ k ih =>
      intro q f hq h z
      rw [ff]
      refine ih (q + 1) _ (by omega) (fun y => ?_) z
      exact B _ hq _ _ _ h y
  exact C _ _ _ (Int.le_refl _) (fun y => by split; exact hP 0 (by omega); exact h9)
theorem fs3_no {E : Int → Int} : ∀ (k : Nat) (s : Int), (∀ i, s ≤ i → i < s + k → ¬ E i = 3) → fs3 E k s = -9
  | 0, _, _ => rfl
  | k + 1, s, h => by rw [fs3, if_neg (h s (by omega) (by omega)), fs3_no k _ (fun i a b => h i (by omega) (by omega))]
theorem tripA_M (R : Int → Int → Int) (np a t w : Int) : (if w = 0 then BF R np t a else fs3 (fun p => if 0 < BF R np t a ∧ BF R np t p = BF R np t a - 1 ∧ ¬ R a p = 0 then 3 else 0) np.toNat 0) = tripA R np a t w := by
  unfold tripA
  have ba := BF_P (fun x => x = -9 ∨ 0 ≤ x) (Or.inl rfl) (fun n h => Or.inr h) R np t a
  by_cases hw : w = 0
  · rw [if_pos hw, if_pos (Or.inl hw)]
  · rw [if_neg hw]
    by_cases h9 : BF R np t a = -9
    · rw [if_pos (Or.inr h9), h9]
      exact fs3_no _ _ (fun i _ _ => by rw [if_neg (by omega)]; omega)
    · rw [if_neg (fun q => q.elim hw h9)]
      refine fs3_congr _ _ (fun i _ _ => ?_)
      have bi := BF_P (fun x => x = -9 ∨ 0 ≤ x) (Or.inl rfl) (fun n h => Or.inr h) R np t i
      by_cases h1 : ¬ R a i = 0 ∧ BF R np t i = BF R np t a - 1
      · rw [if_pos h1, if_pos ⟨by omega, h1.2, h1.1⟩]
      · rw [if_neg h1, if_neg (fun q => h1 ⟨q.2.2, q.2.1⟩)]
theorem MB_fr {c0 : Nat} (hc : 8 < c0) {μ ν : Mem} (hB : MB μ) (h : XFr c0 μ ν) : MB ν := MB_of hB (h 0 (by omega)) (h 2 (by omega)) (h 5 (by omega)) (h 7 (by omega))
theorem mPl_fr {c0 : Nat} (hc : 8 < c0) {μ ν : Mem} (hB : mPl μ) (h : XFr c0 μ ν) : mPl ν := by
  unfold mPl
  rw [h 0 (by omega), h 6 (by omega)]
  exact hB
theorem mJ_fr {c0 : Nat} (hc : 8 < c0) {μ ν : Mem} (h : XFr c0 μ ν) : mJ ν = mJ μ := by
  funext s a b
  unfold mJ mAp mEn
  rw [h 2 (by omega), h 6 (by omega), h 7 (by omega)]

set_option maxRecDepth 100000 in
set_option maxHeartbeats 4000000 in
theorem X7_canJump (μ : Mem) (hB : MB μ) (hL : mPl μ) (s a b : Int) (hs : 0 ≤ s ∧ s < μ 0 14) (ha : 0 ≤ a ∧ a < μ 0 16) (hb : 0 ≤ b ∧ b < μ 0 16) : CT TM md_X7_canJump [aR 0, aI s, aI a, aI b] μ (fun rv μ1 => rv = some (aI (mJ μ s a b)) ∧ μ = μ1) := by
  refine CT.of (Nat.le_of_ble_eq_true rfl) (by decide) rfl (Nat.le_of_ble_eq_true rfl) (fun X hG hX => ?_)
  have hG : G TM X RX7 cX7_canJump 5 2 46 (some .boolean) := hG
  show J TM X 5 0 [some (aR 0), some (aI s), some (aI a), some (aI b), none] [] μ
  have hB2 := hB
  obtain ⟨h1, h2, h3, h4, h5, h6⟩ := hB2
  have q5 := h5 s hs.1 hs.2
  have qa := hL a ha.1 ha.2
  have qb := hL b hb.1 hb.2
  have qp : 0 ≤ mAp μ a b ∧ mAp μ a b ≤ 60 := by unfold mAp; split <;> omega
  refine J.aload_n hG dX7_canJump_0 rfl rfl ?_
  refine J.getR hG ciX7 rfl 13 13 rfl (Nat.le_of_ble_eq_true rfl) rfl fl_X7_25 dX7_canJump_1 ?_
  refine J.iload_n hG dX7_canJump_4 rfl rfl ?_
  refine J.iald hG rfl (by omega) (by omega) dX7_canJump_5 ?_
  refine J.aload_n hG dX7_canJump_6 rfl rfl ?_
  refine J.getR hG ciX7 rfl 13 13 rfl (Nat.le_of_ble_eq_true rfl) rfl fl_X7_25 dX7_canJump_7 ?_
  refine J.iload_n hG dX7_canJump_10 rfl rfl ?_
  refine J.iald hG rfl (by omega) (by omega) dX7_canJump_11 ?_
  refine J.icmp_ge hG 31 dX7_canJump_12 rfl (fun h12 => ?_) (fun h12 => ?_)
  · refine J.aload_n hG dX7_canJump_31 rfl rfl ?_
    refine J.getR hG ciX7 rfl 13 13 rfl (Nat.le_of_ble_eq_true rfl) rfl fl_X7_25 dX7_canJump_32 ?_
    refine J.iload_n hG dX7_canJump_35 rfl rfl ?_
    refine J.iald hG rfl (by omega) (by omega) dX7_canJump_36 ?_
    refine J.aload_n hG dX7_canJump_37 rfl rfl ?_
    refine J.getR hG ciX7 rfl 13 13 rfl (Nat.le_of_ble_eq_true rfl) rfl fl_X7_25 dX7_canJump_38 ?_
    refine J.iload_n hG dX7_canJump_41 rfl rfl ?_
    refine J.iald hG rfl (by omega) (by omega) dX7_canJump_42 ?_
    refine J.isub hG dX7_canJump_43 (fun _ _ => (by omega)) ?_
    have e44 : μ 6 a - μ 6 b = mAp μ a b := by unfold mAp; split <;> omega
    rw [e44]
    refine J.istore hG dX7_canJump_44 (Nat.le_of_ble_eq_true rfl) ?_
    refine J.iload_n hG dX7_canJump_46 rfl rfl ?_
    refine J.iload_n hG dX7_canJump_47 rfl rfl ?_
    refine J.icmp_eq hG 81 dX7_canJump_48 rfl (fun h48 => ?_) (fun h48 => ?_)
    · refine J.iconst hG dX7_canJump_81 (by decide) ?_
      refine J.zret hG (by first | exact Or.inl rfl | exact Or.inr rfl | assumption | (split <;> first | exact Or.inl rfl | exact Or.inr rfl)) dX7_canJump_82 ?_
      rw [hX]; dsimp only
      exact ⟨by congr 2; unfold mJ; first | (rw [if_pos ⟨by assumption, by omega, by assumption⟩]) | (rw [if_neg (fun w => w.2.2 (by assumption))]) | (rw [if_neg (fun w => absurd w.2.1 (by omega))]) | (rw [if_neg (fun w => absurd w.1 (by omega))]), rfl⟩
    · refine J.iload hG dX7_canJump_51 rfl ?_
      refine J.aload_n hG dX7_canJump_53 rfl rfl ?_
      refine J.getR hG ciX7 rfl 9 9 rfl (Nat.le_of_ble_eq_true rfl) rfl fl_X7_13 dX7_canJump_54 ?_
      refine J.iload_n hG dX7_canJump_57 rfl rfl ?_
      refine J.iald hG rfl (by omega) (by omega) dX7_canJump_58 ?_
      refine J.icmp_gt hG 81 dX7_canJump_59 rfl (fun h59 => ?_) (fun h59 => ?_)
      · refine J.iconst hG dX7_canJump_81 (by decide) ?_
        refine J.zret hG (by first | exact Or.inl rfl | exact Or.inr rfl | assumption | (split <;> first | exact Or.inl rfl | exact Or.inr rfl)) dX7_canJump_82 ?_
        rw [hX]; dsimp only
        exact ⟨by congr 2; unfold mJ; first | (rw [if_pos ⟨by assumption, by omega, by assumption⟩]) | (rw [if_neg (fun w => w.2.2 (by assumption))]) | (rw [if_neg (fun w => absurd w.2.1 (by omega))]) | (rw [if_neg (fun w => absurd w.1 (by omega))]), rfl⟩
      · refine J.aload_n hG dX7_canJump_62 rfl rfl ?_
        refine J.aload_n hG dX7_canJump_63 rfl rfl ?_
        refine J.getR hG ciX7 rfl 22 22 rfl (Nat.le_of_ble_eq_true rfl) rfl fl_X7_28 dX7_canJump_64 ?_
        refine J.iload_n hG dX7_canJump_67 rfl rfl ?_
        refine J.iload hG dX7_canJump_68 rfl ?_
        refine J.callV hG (X7_endOf _ _ rfl _ _ (by omega) (by omega)) ok_X7_endOf ml_X7_167 rfl rfl rfl rfl (Nat.le_of_ble_eq_true rfl) ⟨Nat.le_of_ble_eq_true rfl, Nat.le_of_ble_eq_true rfl⟩ dX7_canJump_70 rfl (fun r1 μ1 hp1 => ?_)
        obtain ⟨rfl, rfl⟩ := hp1
        refine J.iconst hG dX7_canJump_73 (by decide) ?_
        refine J.icmp_eq hG 81 dX7_canJump_74 rfl (fun h74 => ?_) (fun h74 => ?_)
        · refine J.iconst hG dX7_canJump_81 (by decide) ?_
          refine J.zret hG (by first | exact Or.inl rfl | exact Or.inr rfl | assumption | (split <;> first | exact Or.inl rfl | exact Or.inr rfl)) dX7_canJump_82 ?_
          rw [hX]; dsimp only
          exact ⟨by congr 2; unfold mJ; first | (rw [if_pos ⟨by assumption, by omega, by assumption⟩]) | (rw [if_neg (fun w => w.2.2 (by assumption))]) | (rw [if_neg (fun w => absurd w.2.1 (by omega))]) | (rw [if_neg (fun w => absurd w.1 (by omega))]), rfl⟩
        · refine J.iconst hG dX7_canJump_77 (by decide) ?_
          refine J.goto hG 82 dX7_canJump_78 rfl ?_
          refine J.zret hG (by first | exact Or.inl rfl | exact Or.inr rfl | assumption | (split <;> first | exact Or.inl rfl | exact Or.inr rfl)) dX7_canJump_82 ?_
          rw [hX]; dsimp only
          exact ⟨by congr 2; unfold mJ; first | (rw [if_pos ⟨by assumption, by omega, by assumption⟩]) | (rw [if_neg (fun w => w.2.2 (by assumption))]) | (rw [if_neg (fun w => absurd w.2.1 (by omega))]) | (rw [if_neg (fun w => absurd w.1 (by omega))]), rfl⟩
  · refine J.aload_n hG dX7_canJump_15 rfl rfl ?_
    refine J.getR hG ciX7 rfl 13 13 rfl (Nat.le_of_ble_eq_true rfl) rfl fl_X7_25 dX7_canJump_16 ?_
    refine J.iload_n hG dX7_canJump_19 rfl rfl ?_
    refine J.iald hG rfl (by omega) (by omega) dX7_canJump_20 ?_
    refine J.aload_n hG dX7_canJump_21 rfl rfl ?_
    refine J.getR hG ciX7 rfl 13 13 rfl (Nat.le_of_ble_eq_true rfl) rfl fl_X7_25 dX7_canJump_22 ?_
    refine J.iload_n hG dX7_canJump_25 rfl rfl ?_
    refine J.iald hG rfl (by omega) (by omega) dX7_canJump_26 ?_
    refine J.isub hG dX7_canJump_27 (fun _ _ => (by omega)) ?_
    refine J.goto hG 44 dX7_canJump_28 rfl ?_
    have e44 : μ 6 b - μ 6 a = mAp μ a b := by unfold mAp; split <;> omega
    rw [e44]
    refine J.istore hG dX7_canJump_44 (Nat.le_of_ble_eq_true rfl) ?_
    refine J.iload_n hG dX7_canJump_46 rfl rfl ?_
    refine J.iload_n hG dX7_canJump_47 rfl rfl ?_
    refine J.icmp_eq hG 81 dX7_canJump_48 rfl (fun h48 => ?_) (fun h48 => ?_)
    · refine J.iconst hG dX7_canJump_81 (by decide) ?_
      refine J.zret hG (by first | exact Or.inl rfl | exact Or.inr rfl | assumption | (split <;> first | exact Or.inl rfl | exact Or.inr rfl)) dX7_canJump_82 ?_
      rw [hX]; dsimp only
      exact ⟨by congr 2; unfold mJ; first | (rw [if_pos ⟨by assumption, by omega, by assumption⟩]) | (rw [if_neg (fun w => w.2.2 (by assumption))]) | (rw [if_neg (fun w => absurd w.2.1 (by omega))]) | (rw [if_neg (fun w => absurd w.1 (by omega))]), rfl⟩
    · refine J.iload hG dX7_canJump_51 rfl ?_
      refine J.aload_n hG dX7_canJump_53 rfl rfl ?_
      refine J.getR hG ciX7 rfl 9 9 rfl (Nat.le_of_ble_eq_true rfl) rfl fl_X7_13 dX7_canJump_54 ?_
      refine J.iload_n hG dX7_canJump_57 rfl rfl ?_
      refine J.iald hG rfl (by omega) (by omega) dX7_canJump_58 ?_
      refine J.icmp_gt hG 81 dX7_canJump_59 rfl (fun h59 => ?_) (fun h59 => ?_)
      · refine J.iconst hG dX7_canJump_81 (by decide) ?_
        refine J.zret hG (by first | exact Or.inl rfl | exact Or.inr rfl | assumption | (split <;> first | exact Or.inl rfl | exact Or.inr rfl)) dX7_canJump_82 ?_
        rw [hX]; dsimp only
        exact ⟨by congr 2; unfold mJ; first | (rw [if_pos ⟨by assumption, by omega, by assumption⟩]) | (rw [if_neg (fun w => w.2.2 (by assumption))]) | (rw [if_neg (fun w => absurd w.2.1 (by omega))]) | (rw [if_neg (fun w => absurd w.1 (by omega))]), rfl⟩
      · refine J.aload_n hG dX7_canJump_62 rfl rfl ?_
        refine J.aload_n hG dX7_canJump_63 rfl rfl ?_
        refine J.getR hG ciX7 rfl 22 22 rfl (Nat.le_of_ble_eq_true rfl) rfl fl_X7_28 dX7_canJump_64 ?_
        refine J.iload_n hG dX7_canJump_67 rfl rfl ?_
        refine J.iload hG dX7_canJump_68 rfl ?_
        refine J.callV hG (X7_endOf _ _ rfl _ _ (by omega) (by omega)) ok_X7_endOf ml_X7_167 rfl rfl rfl rfl (Nat.le_of_ble_eq_true rfl) ⟨Nat.le_of_ble_eq_true rfl, Nat.le_of_ble_eq_true rfl⟩ dX7_canJump_70 rfl (fun r1 μ1 hp1 => ?_)
        obtain ⟨rfl, rfl⟩ := hp1
        refine J.iconst hG dX7_canJump_73 (by decide) ?_
        refine J.icmp_eq hG 81 dX7_canJump_74 rfl (fun h74 => ?_) (fun h74 => ?_)
        · refine J.iconst hG dX7_canJump_81 (by decide) ?_
          refine J.zret hG (by first | exact Or.inl rfl | exact Or.inr rfl | assumption | (split <;> first | exact Or.inl rfl | exact Or.inr rfl)) dX7_canJump_82 ?_
          rw [hX]; dsimp only
          exact ⟨by congr 2; unfold mJ; first | (rw [if_pos ⟨by assumption, by omega, by assumption⟩]) | (rw [if_neg (fun w => w.2.2 (by assumption))]) | (rw [if_neg (fun w => absurd w.2.1 (by omega))]) | (rw [if_neg (fun w => absurd w.1 (by omega))]), rfl⟩
        · refine J.iconst hG dX7_canJump_77 (by decide) ?_
          refine J.goto hG 82 dX7_canJump_78 rfl ?_
          refine J.zret hG (by first | exact Or.inl rfl | exact Or.inr rfl | assumption | (split <;> first | exact Or.inl rfl | exact Or.inr rfl)) dX7_canJump_82 ?_
          rw [hX]; dsimp only
          exact ⟨by congr 2; unfold mJ; first | (rw [if_pos ⟨by assumption, by omega, by assumption⟩]) | (rw [if_neg (fun w => w.2.2 (by assumption))]) | (rw [if_neg (fun w => absurd w.2.1 (by omega))]) | (rw [if_neg (fun w => absurd w.1 (by omega))]), rfl⟩

set_option maxRecDepth 100000 in
set_option maxHeartbeats 4000000 in
theorem X7_measures (μ : Mem) (hB : MB μ) (hL : mPl μ) (s t : Int) (hs : 0 ≤ s ∧ s < μ 0 14) (ht : 0 ≤ t ∧ t < μ 0 16) : CT TM md_X7_measures [aR 0, aI s, aI t] μ (fun rv μ1 => rv = none ∧ XFr 19 μ μ1 ∧ Agr (μ 0 16) (μ1 19) (BF (mJ μ s) (μ 0 16) t)) := by
  refine CT.of (Nat.le_of_ble_eq_true rfl) (by decide) rfl (Nat.le_of_ble_eq_true rfl) (fun X hG hX => ?_)
  have hG : G TM X RX7 cX7_measures 6 3 70 none := hG
  show J TM X 6 0 [some (aR 0), some (aI s), some (aI t), none, none, none] [] μ
  have hB2 := hB
  obtain ⟨h1, h2, h3, h4, h5, h6⟩ := hB2
  have lp2 : ∀ (k : Nat) (n : Int) (ν : Mem) (g : Int → Int), 0 ≤ n → n + k = μ 0 16 → (XFr 19 μ ν) → (Agr (μ 0 16) (ν 19) g) → (ff (rout (mJ μ s) (μ 0 16)) k n g = BF (mJ μ s) (μ 0 16) t) → J TM X 6 35 [some (aR 0), some (aI s), some (aI t), some (aI n), none, none] [] ν := by
    intro k
    induction k with
    | zero =>
      intro n ν g i0 i1 hF hA i2
      have e0 : ν 0 = μ 0 := hF 0 (by decide)
      have e16 : ν 0 16 = μ 0 16 := by rw [e0]
      have e14 : ν 0 14 = μ 0 14 := by rw [e0]
      simp only [ff] at i2
      refine J.iload_n hG dX7_measures_35 rfl rfl ?_
      refine J.aload_n hG dX7_measures_36 rfl rfl ?_
      refine J.getI hG ciX7 rfl 16 16 rfl (Nat.le_of_ble_eq_true rfl) rfl fl_X7_147 dX7_measures_37 ?_
      refine J.icmp_ge hG 130 dX7_measures_40 rfl (fun h40 => ?_) (fun h40 => absurd h40 (by omega))
      refine J.vret hG dX7_measures_130 ?_
      rw [hX]; dsimp only
      exact ⟨rfl, hF, by rw [← i2]; exact hA⟩
    | succ k ih =>
      intro n ν g i0 i1 hF hA i2
      rw [ff] at i2
      have ih0 := ih
      clear ih
      rename Nat => k_
      have lp3 : ∀ (k : Nat) (p : Int) (ν : Mem) (f0 : Int → Int), 0 ≤ p → p + k = μ 0 16 → (XFr 19 μ ν) → (Agr (μ 0 16) (ν 19) f0) → (ff (rout (mJ μ s) (μ 0 16)) k_ (n + 1) (ff (rmid (mJ μ s) (μ 0 16) n) k p f0) = BF (mJ μ s) (μ 0 16) t) → J TM X 6 46 [some (aR 0), some (aI s), some (aI t), some (aI n), some (aI p), none] [] ν := by
        intro k
        induction k with
        | zero =>
          intro p ν f0 i8 i9 hF hA j2
          have e0 : ν 0 = μ 0 := hF 0 (by decide)
          have e16 : ν 0 16 = μ 0 16 := by rw [e0]
          have e14 : ν 0 14 = μ 0 14 := by rw [e0]
          simp only [ff] at j2
          refine J.iload hG dX7_measures_46 rfl ?_
          refine J.aload_n hG dX7_measures_48 rfl rfl ?_
          refine J.getI hG ciX7 rfl 16 16 rfl (Nat.le_of_ble_eq_true rfl) rfl fl_X7_147 dX7_measures_49 ?_
          refine J.icmp_ge hG 124 dX7_measures_52 rfl (fun h52 => ?_) (fun h52 => absurd h52 (by omega))
          refine J.iinc hG dX7_measures_124 (Nat.le_of_ble_eq_true rfl) rfl (fun _ => (by omega)) ?_
          refine J.goto hG 35 dX7_measures_127 rfl ?_
          exact J.drop 4 (ih0 (n + 1) ν f0 (by omega) (by omega) hF hA j2)
        | succ k ih =>
          intro p ν f0 i8 i9 hF hA j2
          rw [ff] at j2
          have ih3 := ih
          clear ih
          rename Nat => k3_
          have lp4 : ∀ (k : Nat) (q : Int) (ν : Mem) (g : Int → Int), 0 ≤ q → q + k = μ 0 16 → (XFr 19 μ ν) → (Agr (μ 0 16) (ν 19) g) → (ff (rqM (mJ μ s) p n) k q g = ff (rqM (mJ μ s) p n) (μ 0 16).toNat 0 f0) → J TM X 6 58 [some (aR 0), some (aI s), some (aI t), some (aI n), some (aI p), some (aI q)] [] ν := by
            intro k
            induction k with
            | zero =>
              intro q ν g i8 i9 hF hA i4
              have e0 : ν 0 = μ 0 := hF 0 (by decide)
              have e16 : ν 0 16 = μ 0 16 := by rw [e0]
              have e14 : ν 0 14 = μ 0 14 := by rw [e0]
              simp only [ff] at i4
              refine J.iload hG dX7_measures_58 rfl ?_
              refine J.aload_n hG dX7_measures_60 rfl rfl ?_
              refine J.getI hG ciX7 rfl 16 16 rfl (Nat.le_of_ble_eq_true rfl) rfl fl_X7_147 dX7_measures_61 ?_
              refine J.icmp_ge hG 118 dX7_measures_64 rfl (fun h64 => ?_) (fun h64 => absurd h64 (by omega))
              refine J.iinc hG dX7_measures_118 (Nat.le_of_ble_eq_true rfl) rfl (fun _ => (by omega)) ?_
              refine J.goto hG 46 dX7_measures_121 rfl ?_
              refine J.drop 5 (ih3 (p + 1) ν g (by omega) (by omega) hF hA ?_)
              rw [i4, ← j2, ff_rqM (by omega)]
              rw [show rmid (mJ μ s) (μ 0 16) n p f0 = (if f0 p = n then ff (rq (mJ μ s) p n) (μ 0 16).toNat 0 f0 else f0) from rfl]
            | succ k ih =>
              intro q ν g i8 i9 hF hA i4
              have e0 : ν 0 = μ 0 := hF 0 (by decide)
              have e16 : ν 0 16 = μ 0 16 := by rw [e0]
              have e14 : ν 0 14 = μ 0 14 := by rw [e0]
              rw [ff] at i4
              have aq := hA q (by omega) (by omega)
              have ap := hA p (by omega) (by omega)
              have ej : mJ ν s p q = mJ μ s p q := by rw [mJ_fr (by decide) hF]
              refine J.iload hG dX7_measures_58 rfl ?_
              refine J.aload_n hG dX7_measures_60 rfl rfl ?_
              refine J.getI hG ciX7 rfl 16 16 rfl (Nat.le_of_ble_eq_true rfl) rfl fl_X7_147 dX7_measures_61 ?_
              refine J.icmp_ge hG 118 dX7_measures_64 rfl (fun h64 => absurd h64 (by omega)) (fun h64 => ?_)
              refine J.aload_n hG dX7_measures_67 rfl rfl ?_
              refine J.getR hG ciX7 rfl 37 37 rfl (Nat.le_of_ble_eq_true rfl) rfl fl_X7_65 dX7_measures_68 ?_
              refine J.iload hG dX7_measures_71 rfl ?_
              refine J.iald hG rfl (by omega) (by omega) dX7_measures_73 ?_
              refine J.iload_n hG dX7_measures_74 rfl rfl ?_
              refine J.icmp_ne hG 112 dX7_measures_75 rfl (fun h75 => ?_) (fun h75 => ?_)
              · refine J.iinc hG dX7_measures_112 (Nat.le_of_ble_eq_true rfl) rfl (fun _ => (by omega)) ?_
                refine J.goto hG 58 dX7_measures_115 rfl ?_
                first
                  | (rw [rqM, if_neg (by omega)] at i4; exact ih (q + 1) _ _ (by omega) (by omega) hF hA i4)
                  | (rw [rqM, if_pos (by omega)] at i4
                     exact ih (q + 1) _ _ (by omega) (by omega) (XFr_up hF _ _) (Agr_up hA _ _) i4)
              · refine J.aload_n hG dX7_measures_78 rfl rfl ?_
                refine J.getR hG ciX7 rfl 37 37 rfl (Nat.le_of_ble_eq_true rfl) rfl fl_X7_65 dX7_measures_79 ?_
                refine J.iload hG dX7_measures_82 rfl ?_
                refine J.iald hG rfl (by omega) (by omega) dX7_measures_84 ?_
                refine J.bipush hG dX7_measures_85 (by decide) (by decide) ?_
                refine J.icmp_ne hG 112 dX7_measures_87 rfl (fun h87 => ?_) (fun h87 => ?_)
                · refine J.iinc hG dX7_measures_112 (Nat.le_of_ble_eq_true rfl) rfl (fun _ => (by omega)) ?_
                  refine J.goto hG 58 dX7_measures_115 rfl ?_
                  first
                    | (rw [rqM, if_neg (by omega)] at i4; exact ih (q + 1) _ _ (by omega) (by omega) hF hA i4)
                    | (rw [rqM, if_pos (by omega)] at i4
                       exact ih (q + 1) _ _ (by omega) (by omega) (XFr_up hF _ _) (Agr_up hA _ _) i4)
                · refine J.aload_n hG dX7_measures_90 rfl rfl ?_
                  refine J.iload_n hG dX7_measures_91 rfl rfl ?_
                  refine J.iload hG dX7_measures_92 rfl ?_
                  refine J.iload hG dX7_measures_94 rfl ?_
                  refine J.callV hG (X7_canJump _ (MB_fr (by decide) hB hF) (mPl_fr (by decide) hL hF) _ _ _ (by omega) (by omega) (by omega)) ok_X7_canJump ml_X7_228 rfl rfl rfl rfl (Nat.le_of_ble_eq_true rfl) ⟨Nat.le_of_ble_eq_true rfl, Nat.le_of_ble_eq_true rfl⟩ dX7_measures_96 rfl (fun r1 μ1 hp1 => ?_)
                  obtain ⟨rfl, rfl⟩ := hp1
                  refine J.if_eq hG 112 dX7_measures_99 rfl (fun h99 => ?_) (fun h99 => ?_)
                  · refine J.iinc hG dX7_measures_112 (Nat.le_of_ble_eq_true rfl) rfl (fun _ => (by omega)) ?_
                    refine J.goto hG 58 dX7_measures_115 rfl ?_
                    first
                      | (rw [rqM, if_neg (by omega)] at i4; exact ih (q + 1) _ _ (by omega) (by omega) hF hA i4)
                      | (rw [rqM, if_pos (by omega)] at i4
                         exact ih (q + 1) _ _ (by omega) (by omega) (XFr_up hF _ _) (Agr_up hA _ _) i4)
                  · refine J.aload_n hG dX7_measures_102 rfl rfl ?_
                    refine J.getR hG ciX7 rfl 37 37 rfl (Nat.le_of_ble_eq_true rfl) rfl fl_X7_65 dX7_measures_103 ?_
                    refine J.iload hG dX7_measures_106 rfl ?_
                    refine J.iload_n hG dX7_measures_108 rfl rfl ?_
                    refine J.iconst hG dX7_measures_109 (by decide) ?_
                    refine J.iadd hG dX7_measures_110 (fun _ _ => (by omega)) ?_
                    refine J.iast hG rfl (by omega) (by omega) dX7_measures_111 ?_
                    refine J.iinc hG dX7_measures_112 (Nat.le_of_ble_eq_true rfl) rfl (fun _ => (by omega)) ?_
                    refine J.goto hG 58 dX7_measures_115 rfl ?_
                    first
                      | (rw [rqM, if_neg (by omega)] at i4; exact ih (q + 1) _ _ (by omega) (by omega) hF hA i4)
                      | (rw [rqM, if_pos (by omega)] at i4
                         exact ih (q + 1) _ _ (by omega) (by omega) (XFr_up hF _ _) (Agr_up hA _ _) i4)
          have e0 : ν 0 = μ 0 := hF 0 (by decide)
          have e16 : ν 0 16 = μ 0 16 := by rw [e0]
          have e14 : ν 0 14 = μ 0 14 := by rw [e0]
          refine J.iload hG dX7_measures_46 rfl ?_
          refine J.aload_n hG dX7_measures_48 rfl rfl ?_
          refine J.getI hG ciX7 rfl 16 16 rfl (Nat.le_of_ble_eq_true rfl) rfl fl_X7_147 dX7_measures_49 ?_
          refine J.icmp_ge hG 124 dX7_measures_52 rfl (fun h52 => absurd h52 (by omega)) (fun h52 => ?_)
          refine J.iconst hG dX7_measures_55 (by decide) ?_
          refine J.istore hG dX7_measures_56 (Nat.le_of_ble_eq_true rfl) ?_
          exact lp4 (μ 0 16).toNat 0 ν f0 (Int.le_refl _) (by omega) hF hA rfl
      have e0 : ν 0 = μ 0 := hF 0 (by decide)
      have e16 : ν 0 16 = μ 0 16 := by rw [e0]
      have e14 : ν 0 14 = μ 0 14 := by rw [e0]
      refine J.iload_n hG dX7_measures_35 rfl rfl ?_
      refine J.aload_n hG dX7_measures_36 rfl rfl ?_
      refine J.getI hG ciX7 rfl 16 16 rfl (Nat.le_of_ble_eq_true rfl) rfl fl_X7_147 dX7_measures_37 ?_
      refine J.icmp_ge hG 130 dX7_measures_40 rfl (fun h40 => absurd h40 (by omega)) (fun h40 => ?_)
      refine J.iconst hG dX7_measures_43 (by decide) ?_
      refine J.istore hG dX7_measures_44 (Nat.le_of_ble_eq_true rfl) ?_
      exact lp3 (μ 0 16).toNat 0 ν g (Int.le_refl _) (by omega) hF hA i2
  have lp1 : ∀ (k : Nat) (i : Int) (ν : Mem), 0 ≤ i → i + k = μ 0 16 → (XFr 19 μ ν) → (∀ z : Int, 0 ≤ z → z < i → ν 19 z = if z = t then 0 else -9) → J TM X 6 2 [some (aR 0), some (aI s), some (aI t), some (aI i), none, none] [] ν := by
    intro k
    induction k with
    | zero =>
      intro i ν i0 i1 hF hA
      have e0 : ν 0 = μ 0 := hF 0 (by decide)
      have e16 : ν 0 16 = μ 0 16 := by rw [e0]
      have e14 : ν 0 14 = μ 0 14 := by rw [e0]
      refine J.iload_n hG dX7_measures_2 rfl rfl ?_
      refine J.aload_n hG dX7_measures_3 rfl rfl ?_
      refine J.getI hG ciX7 rfl 16 16 rfl (Nat.le_of_ble_eq_true rfl) rfl fl_X7_147 dX7_measures_4 ?_
      refine J.icmp_ge hG 33 dX7_measures_7 rfl (fun h7 => ?_) (fun h7 => absurd h7 (by omega))
      refine J.iconst hG dX7_measures_33 (by decide) ?_
      refine J.istore_n hG dX7_measures_34 rfl (Nat.le_of_ble_eq_true rfl) ?_
      exact lp2 (μ 0 16).toNat 0 _ _ (Int.le_refl _) (by omega) hF (fun z a b => hA z a (by omega)) rfl
    | succ k ih =>
      intro i ν i0 i1 hF hA
      have e0 : ν 0 = μ 0 := hF 0 (by decide)
      have e16 : ν 0 16 = μ 0 16 := by rw [e0]
      have e14 : ν 0 14 = μ 0 14 := by rw [e0]
      refine J.iload_n hG dX7_measures_2 rfl rfl ?_
      refine J.aload_n hG dX7_measures_3 rfl rfl ?_
      refine J.getI hG ciX7 rfl 16 16 rfl (Nat.le_of_ble_eq_true rfl) rfl fl_X7_147 dX7_measures_4 ?_
      refine J.icmp_ge hG 33 dX7_measures_7 rfl (fun h7 => absurd h7 (by omega)) (fun h7 => ?_)
      refine J.aload_n hG dX7_measures_10 rfl rfl ?_
      refine J.getR hG ciX7 rfl 37 37 rfl (Nat.le_of_ble_eq_true rfl) rfl fl_X7_65 dX7_measures_11 ?_
      refine J.iload_n hG dX7_measures_14 rfl rfl ?_
      refine J.iload_n hG dX7_measures_15 rfl rfl ?_
      refine J.iload_n hG dX7_measures_16 rfl rfl ?_
      refine J.icmp_ne hG 24 dX7_measures_17 rfl (fun h17 => ?_) (fun h17 => ?_)
      · refine J.bipush hG dX7_measures_24 (by decide) (by decide) ?_
        refine J.iast hG rfl (by omega) (by omega) dX7_measures_26 ?_
        refine J.iinc hG dX7_measures_27 (Nat.le_of_ble_eq_true rfl) rfl (fun _ => (by omega)) ?_
        refine J.goto hG 2 dX7_measures_30 rfl ?_
        refine ih (i + 1) _ (by omega) (by omega) (XFr_up hF _ _) (fun z a b => ?_)
        by_cases hz : z = i
        · rw [hz, up_self]
          first
            | rw [if_pos (by omega)]
            | rw [if_neg (by omega)]
        · rw [up_ne _ (fun w => hz w.2)]
          exact hA z a (by omega)
      · refine J.iconst hG dX7_measures_20 (by decide) ?_
        refine J.goto hG 26 dX7_measures_21 rfl ?_
        refine J.iast hG rfl (by omega) (by omega) dX7_measures_26 ?_
        refine J.iinc hG dX7_measures_27 (Nat.le_of_ble_eq_true rfl) rfl (fun _ => (by omega)) ?_
        refine J.goto hG 2 dX7_measures_30 rfl ?_
        refine ih (i + 1) _ (by omega) (by omega) (XFr_up hF _ _) (fun z a b => ?_)
        by_cases hz : z = i
        · rw [hz, up_self]
          first
            | rw [if_pos (by omega)]
            | rw [if_neg (by omega)]
        · rw [up_ne _ (fun w => hz w.2)]
          exact hA z a (by omega)
  refine J.iconst hG dX7_measures_0 (by decide) ?_
  refine J.istore_n hG dX7_measures_1 rfl (Nat.le_of_ble_eq_true rfl) ?_
  exact lp1 (μ 0 16).toNat 0 μ (Int.le_refl _) (by omega) (fun _ _ => rfl) (fun z a b => absurd b (by omega))

set_option maxRecDepth 100000 in
set_option maxHeartbeats 4000000 in
theorem X7_trip (μ0 μ : Mem) (hμ : μ = th μ0) (hB : MB μ) (hL : mPl μ) (s a t w : Int) : CT TM md_X7_trip [aR 0, aI s, aI a, aI t, aI w] μ0 (fun rv μ1 => XFr 19 μ μ1 ∧ rv = some (aI (if (0 ≤ s ∧ s < μ 0 14) ∧ (0 ≤ a ∧ a < μ 0 16) ∧ (0 ≤ t ∧ t < μ 0 16) ∧ (0 ≤ w ∧ w ≤ 1) then tripA (mJ μ s) (μ 0 16) a t w else -1))) := by
  refine CT.of (Nat.le_of_ble_eq_true rfl) (by decide) rfl (Nat.le_of_ble_eq_true rfl) (fun X hG hX => ?_)
  have hG : G TM X RX7 cX7_trip 6 4 95 (some .int) := hG
  show J TM X 6 0 [some (aR 0), some (aI s), some (aI a), some (aI t), some (aI w), none] [] μ0
  refine J.aload_n hG dX7_trip_0 rfl rfl ?_
  refine J.iconst hG dX7_trip_1 (by decide) ?_
  refine J.putI hG ciX7 rfl 0 0 rfl (Nat.le_of_ble_eq_true rfl) rfl fl_X7_75 rfl rfl dX7_trip_2 ?_
  show J TM X 6 5 [some (aR 0), some (aI s), some (aI a), some (aI t), some (aI w), none] [] (th μ0)
  rw [← hμ]
  have hB2 := hB
  obtain ⟨h1, h2, h3, h4, h5, h6⟩ := hB2
  refine J.aload_n hG dX7_trip_5 rfl rfl ?_
  refine J.iload_n hG dX7_trip_6 rfl rfl ?_
  refine J.callV hG (X7_isScale _ _ (by omega)) ok_X7_isScale ml_X7_159 rfl rfl rfl rfl (Nat.le_of_ble_eq_true rfl) ⟨Nat.le_of_ble_eq_true rfl, Nat.le_of_ble_eq_true rfl⟩ dX7_trip_7 rfl (fun r1 μ1 hp1 => ?_)
  obtain ⟨rfl, rfl⟩ := hp1
  refine J.ifb_eq hG 39 dX7_trip_10 rfl (fun h10 => ?_) (fun h10 => ?_)
  · refine J.iconst hG dX7_trip_39 (by decide) ?_
    refine J.iret hG dX7_trip_40 ?_
    rw [hX]; dsimp only
    exact ⟨fun _ _ => rfl, by rw [if_neg (by omega)]⟩
  · refine J.aload_n hG dX7_trip_13 rfl rfl ?_
    refine J.iload_n hG dX7_trip_14 rfl rfl ?_
    refine J.callV hG (X7_isPlace _ _ (by omega)) ok_X7_isPlace ml_X7_177 rfl rfl rfl rfl (Nat.le_of_ble_eq_true rfl) ⟨Nat.le_of_ble_eq_true rfl, Nat.le_of_ble_eq_true rfl⟩ dX7_trip_15 rfl (fun r1 μ1 hp1 => ?_)
    obtain ⟨rfl, rfl⟩ := hp1
    refine J.ifb_eq hG 39 dX7_trip_18 rfl (fun h18 => ?_) (fun h18 => ?_)
    · refine J.iconst hG dX7_trip_39 (by decide) ?_
      refine J.iret hG dX7_trip_40 ?_
      rw [hX]; dsimp only
      exact ⟨fun _ _ => rfl, by rw [if_neg (by omega)]⟩
    · refine J.aload_n hG dX7_trip_21 rfl rfl ?_
      refine J.iload_n hG dX7_trip_22 rfl rfl ?_
      refine J.callV hG (X7_isPlace _ _ (by omega)) ok_X7_isPlace ml_X7_177 rfl rfl rfl rfl (Nat.le_of_ble_eq_true rfl) ⟨Nat.le_of_ble_eq_true rfl, Nat.le_of_ble_eq_true rfl⟩ dX7_trip_23 rfl (fun r1 μ1 hp1 => ?_)
      obtain ⟨rfl, rfl⟩ := hp1
      refine J.ifb_eq hG 39 dX7_trip_26 rfl (fun h26 => ?_) (fun h26 => ?_)
      · refine J.iconst hG dX7_trip_39 (by decide) ?_
        refine J.iret hG dX7_trip_40 ?_
        rw [hX]; dsimp only
        exact ⟨fun _ _ => rfl, by rw [if_neg (by omega)]⟩
      · refine J.iload hG dX7_trip_29 rfl ?_
        refine J.iconst hG dX7_trip_31 (by decide) ?_
        refine J.iconst hG dX7_trip_32 (by decide) ?_
        refine J.callS hG (X7_in _ _ _ _) ok_X7_in ml_X7_78 rfl (Nat.le_of_ble_eq_true rfl) ⟨Nat.le_of_ble_eq_true rfl, Nat.le_of_ble_eq_true rfl⟩ dX7_trip_33 rfl (fun r1 μ1 hp1 => ?_)
        obtain ⟨rfl, rfl⟩ := hp1
        refine J.ifb_ne hG 41 dX7_trip_36 rfl (fun h36 => ?_) (fun h36 => ?_)
        · refine J.aload_n hG dX7_trip_41 rfl rfl ?_
          refine J.iload_n hG dX7_trip_42 rfl rfl ?_
          refine J.iload_n hG dX7_trip_43 rfl rfl ?_
          refine J.callV hG (X7_measures _ hB hL _ _ (by omega) (by omega)) ok_X7_measures ml_X7_231 rfl rfl rfl rfl (Nat.le_of_ble_eq_true rfl) ⟨Nat.le_of_ble_eq_true rfl, Nat.le_of_ble_eq_true rfl⟩ dX7_trip_44 rfl (fun r1 ν hp1 => ?_)
          obtain ⟨rfl, hF, hA⟩ := hp1
          have ea := hA a (by omega) (by omega)
          have bb := BF_bd (mJ μ s) (μ 0 16) t h3 a
          have e0 : ν 0 = μ 0 := hF 0 (by decide)
          have e16 : ν 0 16 = μ 0 16 := by rw [e0]
          have e14 : ν 0 14 = μ 0 14 := by rw [e0]
          refine J.iload hG dX7_trip_47 rfl ?_
          refine J.if_ne hG 59 dX7_trip_49 rfl (fun h49 => ?_) (fun h49 => ?_)
          · refine J.iconst hG dX7_trip_59 (by decide) ?_
            refine J.istore hG dX7_trip_60 (Nat.le_of_ble_eq_true rfl) ?_
            have lp : ∀ (k : Nat) (p : Int), 0 ≤ p → p + k = μ 0 16 → (fs3 (fun p => if 0 < BF (mJ μ s) (μ 0 16) t a ∧ BF (mJ μ s) (μ 0 16) t p = BF (mJ μ s) (μ 0 16) t a - 1 ∧ ¬ mJ μ s a p = 0 then 3 else 0) k p = fs3 (fun p => if 0 < BF (mJ μ s) (μ 0 16) t a ∧ BF (mJ μ s) (μ 0 16) t p = BF (mJ μ s) (μ 0 16) t a - 1 ∧ ¬ mJ μ s a p = 0 then 3 else 0) (μ 0 16).toNat 0) → J TM X 6 62 [some (aR 0), some (aI s), some (aI a), some (aI t), some (aI w), some (aI p)] [] ν := by
              intro k
              induction k with
              | zero =>
                intro p  i0 i1 i2
                simp only [fs3] at i2
                refine J.iload hG dX7_trip_62 rfl ?_
                refine J.aload_n hG dX7_trip_64 rfl rfl ?_
                refine J.getI hG ciX7 rfl 16 16 rfl (Nat.le_of_ble_eq_true rfl) rfl fl_X7_147 dX7_trip_65 ?_
                refine J.icmp_ge hG 118 dX7_trip_68 rfl (fun h68 => ?_) (fun h68 => absurd h68 (by omega))
                refine J.bipush hG dX7_trip_118 (by decide) (by decide) ?_
                refine J.iret hG dX7_trip_120 ?_
                rw [hX]; dsimp only
                refine ⟨hF, ?_⟩
                rw [if_pos (by omega), ← tripA_M, if_neg (by omega), ← i2]
              | succ k ih =>
                intro p  i0 i1 i2
                rw [fs3] at i2
                have ap := hA p (by omega) (by omega)
                have ej : mJ ν s a p = mJ μ s a p := by rw [mJ_fr (by decide) hF]
                refine J.iload hG dX7_trip_62 rfl ?_
                refine J.aload_n hG dX7_trip_64 rfl rfl ?_
                refine J.getI hG ciX7 rfl 16 16 rfl (Nat.le_of_ble_eq_true rfl) rfl fl_X7_147 dX7_trip_65 ?_
                refine J.icmp_ge hG 118 dX7_trip_68 rfl (fun h68 => absurd h68 (by omega)) (fun h68 => ?_)
                refine J.aload_n hG dX7_trip_71 rfl rfl ?_
                refine J.getR hG ciX7 rfl 37 37 rfl (Nat.le_of_ble_eq_true rfl) rfl fl_X7_65 dX7_trip_72 ?_
                refine J.iload_n hG dX7_trip_75 rfl rfl ?_
                refine J.iald hG rfl (by omega) (by omega) dX7_trip_76 ?_
                refine J.if_le hG 112 dX7_trip_77 rfl (fun h77 => ?_) (fun h77 => ?_)
                · refine J.iinc hG dX7_trip_112 (Nat.le_of_ble_eq_true rfl) rfl (fun _ => (by omega)) ?_
                  refine J.goto hG 62 dX7_trip_115 rfl ?_
                  rw [if_neg (by rw [if_neg (by omega)]; decide)] at i2
                  exact ih (p + 1) (by omega) (by omega) i2
                · refine J.aload_n hG dX7_trip_80 rfl rfl ?_
                  refine J.getR hG ciX7 rfl 37 37 rfl (Nat.le_of_ble_eq_true rfl) rfl fl_X7_65 dX7_trip_81 ?_
                  refine J.iload hG dX7_trip_84 rfl ?_
                  refine J.iald hG rfl (by omega) (by omega) dX7_trip_86 ?_
                  refine J.aload_n hG dX7_trip_87 rfl rfl ?_
                  refine J.getR hG ciX7 rfl 37 37 rfl (Nat.le_of_ble_eq_true rfl) rfl fl_X7_65 dX7_trip_88 ?_
                  refine J.iload_n hG dX7_trip_91 rfl rfl ?_
                  refine J.iald hG rfl (by omega) (by omega) dX7_trip_92 ?_
                  refine J.iconst hG dX7_trip_93 (by decide) ?_
                  refine J.isub hG dX7_trip_94 (fun _ _ => (by omega)) ?_
                  refine J.icmp_ne hG 112 dX7_trip_95 rfl (fun h95 => ?_) (fun h95 => ?_)
                  · refine J.iinc hG dX7_trip_112 (Nat.le_of_ble_eq_true rfl) rfl (fun _ => (by omega)) ?_
                    refine J.goto hG 62 dX7_trip_115 rfl ?_
                    rw [if_neg (by rw [if_neg (by omega)]; decide)] at i2
                    exact ih (p + 1) (by omega) (by omega) i2
                  · refine J.aload_n hG dX7_trip_98 rfl rfl ?_
                    refine J.iload_n hG dX7_trip_99 rfl rfl ?_
                    refine J.iload_n hG dX7_trip_100 rfl rfl ?_
                    refine J.iload hG dX7_trip_101 rfl ?_
                    refine J.callV hG (X7_canJump _ (MB_fr (by decide) hB hF) (mPl_fr (by decide) hL hF) _ _ _ (by omega) (by omega) (by omega)) ok_X7_canJump ml_X7_228 rfl rfl rfl rfl (Nat.le_of_ble_eq_true rfl) ⟨Nat.le_of_ble_eq_true rfl, Nat.le_of_ble_eq_true rfl⟩ dX7_trip_103 rfl (fun r1 μ1 hp1 => ?_)
                    obtain ⟨rfl, rfl⟩ := hp1
                    refine J.if_eq hG 112 dX7_trip_106 rfl (fun h106 => ?_) (fun h106 => ?_)
                    · refine J.iinc hG dX7_trip_112 (Nat.le_of_ble_eq_true rfl) rfl (fun _ => (by omega)) ?_
                      refine J.goto hG 62 dX7_trip_115 rfl ?_
                      rw [if_neg (by rw [if_neg (by omega)]; decide)] at i2
                      exact ih (p + 1) (by omega) (by omega) i2
                    · refine J.iload hG dX7_trip_109 rfl ?_
                      refine J.iret hG dX7_trip_111 ?_
                      rw [hX]; dsimp only
                      rw [if_pos (if_pos ⟨by omega, by omega, by omega⟩)] at i2
                      refine ⟨hF, ?_⟩
                      rw [if_pos (by omega), ← tripA_M, if_neg (by omega), ← i2]
            exact lp (μ 0 16).toNat 0 (Int.le_refl _) (by omega) rfl
          · refine J.aload_n hG dX7_trip_52 rfl rfl ?_
            refine J.getR hG ciX7 rfl 37 37 rfl (Nat.le_of_ble_eq_true rfl) rfl fl_X7_65 dX7_trip_53 ?_
            refine J.iload_n hG dX7_trip_56 rfl rfl ?_
            refine J.iald hG rfl (by omega) (by omega) dX7_trip_57 ?_
            refine J.iret hG dX7_trip_58 ?_
            rw [hX]; dsimp only
            exact ⟨hF, by rw [if_pos (by omega), ← tripA_M, if_pos (by omega), ea]⟩
        · refine J.iconst hG dX7_trip_39 (by decide) ?_
          refine J.iret hG dX7_trip_40 ?_
          rw [hX]; dsimp only
          exact ⟨fun _ _ => rfl, by rw [if_neg (by omega)]⟩


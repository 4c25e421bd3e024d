/-! memories that a call of the class leaves -/
def bec (μ : Mem) (a b : Nat) : Mem :=
  let m1 := up μ b 0 (μ a 0)
  let m2 := up m1 b 1 (m1 a 1)
  cpy (cpy (cpy m2 (a + 1) (b + 1) 16) (a + 2) (b + 2) 4) (a + 3) (b + 3) 4
theorem bec_cell (μ : Mem) (a b c : Nat) (h : ¬ (b ≤ c ∧ c ≤ b + 3)) : bec μ a b c = μ c := by
  unfold bec
  rw [cpy_ne _ _ (by omega), cpy_ne _ _ (by omega), cpy_ne _ _ (by omega), up_cell _ _ _ (by omega), up_cell _ _ _ (by omega)]
def MomAt (c : Nat) : Prop := TX[c]? = some (.inl (2, [0, 0, c + 3, c + 4, c + 5])) ∧ TX[c + 1]? = some (.inr (0, 16, [])) ∧ TX[c + 2]? = some (.inr (0, 4, [])) ∧ TX[c + 3]? = some (.inr (0, 4, []))
theorem mom_17 : MomAt 17 := ⟨rfl, rfl, rfl, rfl⟩
theorem mom_6 : MomAt 6 := ⟨rfl, rfl, rfl, rfl⟩
theorem mom_ring (i : Nat) (h : i < 10) : MomAt (23 + 4 * i) := by
  match i, h with
  | 0, _ => exact ⟨rfl, rfl, rfl, rfl⟩
  | 1, _ => exact ⟨rfl, rfl, rfl, rfl⟩
  | 2, _ => exact ⟨rfl, rfl, rfl, rfl⟩
  | 3, _ => exact ⟨rfl, rfl, rfl, rfl⟩
  | 4, _ => exact ⟨rfl, rfl, rfl, rfl⟩
  | 5, _ => exact ⟨rfl, rfl, rfl, rfl⟩
  | 6, _ => exact ⟨rfl, rfl, rfl, rfl⟩
  | 7, _ => exact ⟨rfl, rfl, rfl, rfl⟩
  | 8, _ => exact ⟨rfl, rfl, rfl, rfl⟩
  | 9, _ => exact ⟨rfl, rfl, rfl, rfl⟩
theorem ring_ref (j : Int) (h0 : 0 ≤ j) (h1 : j < 10) : ([23, 27, 31, 35, 39, 43, 47, 51, 55, 59] : List Nat)[j.toNat]? = some (23 + 4 * j.toNat) := by
  rcases (show j = 0 ∨ j = 1 ∨ j = 2 ∨ j = 3 ∨ j = 4 ∨ j = 5 ∨ j = 6 ∨ j = 7 ∨ j = 8 ∨ j = 9 by omega) with rfl | rfl | rfl | rfl | rfl | rfl | rfl | rfl | rfl | rfl <;> rfl
theorem mom_img (i : Nat) (h : i < 2) : MomAt (77 + 4 * i) := by
  match i, h with
  | 0, _ => exact ⟨rfl, rfl, rfl, rfl⟩
  | 1, _ => exact ⟨rfl, rfl, rfl, rfl⟩
theorem img_ref (j : Int) (h0 : 0 ≤ j) (h1 : j < 2) : ([77, 81] : List Nat)[j.toNat]? = some (77 + 4 * j.toNat) := by
  rcases (show j = 0 ∨ j = 1 by omega) with rfl | rfl <;> rfl
def rem (μ : Mem) : Mem :=
  let m1 := bec μ 17 (23 + 4 * (μ 21 1).toNat)
  let m2 := up m1 21 1 ((m1 21 1 + 1) % 10)
  up m2 21 0 (min 10 (m2 21 0 + 1))
def gvb (μ : Mem) : Mem :=
  let m1 := up μ 21 1 ((μ 21 1 + 10 - 1) % 10)
  let m2 := up m1 21 0 (m1 21 0 - 1)
  bec m2 (23 + 4 * (m2 21 1).toNat) 17
def XP (μ : Mem) : Prop := 0 ≤ μ 21 0 ∧ μ 21 0 ≤ 10 ∧ 0 ≤ μ 21 1 ∧ μ 21 1 < 10
theorem XB_of {μ μ' : Mem} (h : XB μ) (e13 : μ' 13 = μ 13) (e14 : μ' 14 = μ 14) (e15 : μ' 15 = μ 15) (e18 : μ' 18 = μ 18) : XB μ' := by
  unfold XB
  rw [e13, e14, e15, e18]
  exact h
theorem rem_cell (μ : Mem) (c : Nat) (h : c < 21 ∨ 63 ≤ c) (hp : XP μ) : rem μ c = μ c := by
  obtain ⟨h1, h2, h3, h4⟩ := hp
  unfold rem
  rw [up_cell _ _ _ (by omega), up_cell _ _ _ (by omega), bec_cell _ _ _ _ (by omega)]
theorem rem_XB {μ : Mem} (h : XB μ) (hp : XP μ) : XB (rem μ) := XB_of h (rem_cell _ _ (by omega) hp) (rem_cell _ _ (by omega) hp) (rem_cell _ _ (by omega) hp) (rem_cell _ _ (by omega) hp)

theorem xBits_aux (f : Int → Int) (hf : ∀ i, f i = 0 ∨ f i = p2 i) (n : Int) (h : 0 ≤ n ∧ n ≤ 4) : 0 ≤ smf f 0 n.toNat ∧ smf f 0 n.toNat ≤ 15 := by
  have e0 := hf 0
  have e1 := hf 1
  have e2 := hf 2
  have e3 := hf 3
  rw [show p2 0 = 1 from rfl] at e0
  rw [show p2 1 = 2 from rfl] at e1
  rw [show p2 2 = 4 from rfl] at e2
  rw [show p2 3 = 8 from rfl] at e3
  rcases (show n = 0 ∨ n = 1 ∨ n = 2 ∨ n = 3 ∨ n = 4 by omega) with rfl | rfl | rfl | rfl | rfl
  · show 0 ≤ (0 : Int) ∧ (0 : Int) ≤ 15; omega
  · show 0 ≤ f 0 + 0 ∧ f 0 + 0 ≤ 15; omega
  · show 0 ≤ f 0 + (f 1 + 0) ∧ f 0 + (f 1 + 0) ≤ 15; omega
  · show 0 ≤ f 0 + (f 1 + (f 2 + 0)) ∧ f 0 + (f 1 + (f 2 + 0)) ≤ 15; omega
  · show 0 ≤ f 0 + (f 1 + (f 2 + (f 3 + 0))) ∧ f 0 + (f 1 + (f 2 + (f 3 + 0))) ≤ 15; omega
theorem xBits_bound (μ : Mem) (h : 0 ≤ μ 13 1 ∧ μ 13 1 ≤ 4) : 0 ≤ xBits μ ∧ xBits μ ≤ 15 := xBits_aux _ (fun i => by split <;> simp) _ h
set_option maxRecDepth 100000 in
set_option maxHeartbeats 4000000 in
theorem X2_becomes (μ : Mem) (a b : Nat) (ha : MomAt a) (hb : MomAt b) : CT TX md_X2_becomes [aR b, aR a] μ (fun rv μ1 => rv = none ∧ μ1 = bec μ a b) := by
  refine CT.of (Nat.le_of_ble_eq_true rfl) (by decide) rfl (Nat.le_of_ble_eq_true rfl) (fun X hG hX => ?_)
  have hG : G TX X RX2 cX2_becomes 2 1 30 none := hG
  show J TX X 2 0 [some (aR b), some (aR a)] [] μ
  refine J.aload_n hG dX2_becomes_0 rfl rfl ?_
  refine J.aload_n hG dX2_becomes_1 rfl rfl ?_
  refine J.getI hG ciX2 ha.1 0 0 rfl (Nat.le_of_ble_eq_true rfl) rfl fl_X2_9 dX2_becomes_2 ?_
  refine J.putI hG ciX2 hb.1 0 0 rfl (Nat.le_of_ble_eq_true rfl) rfl fl_X2_9 rfl rfl dX2_becomes_5 ?_
  refine J.aload_n hG dX2_becomes_8 rfl rfl ?_
  refine J.aload_n hG dX2_becomes_9 rfl rfl ?_
  refine J.getI hG ciX2 ha.1 1 1 rfl (Nat.le_of_ble_eq_true rfl) rfl fl_X2_15 dX2_becomes_10 ?_
  refine J.putI hG ciX2 hb.1 1 1 rfl (Nat.le_of_ble_eq_true rfl) rfl fl_X2_15 rfl rfl dX2_becomes_13 ?_
  refine J.aload_n hG dX2_becomes_16 rfl rfl ?_
  refine J.getR hG ciX2 ha.1 2 2 rfl (Nat.le_of_ble_eq_true rfl) rfl fl_X2_18 dX2_becomes_17 ?_
  refine J.iconst hG dX2_becomes_20 (by decide) ?_
  refine J.aload_n hG dX2_becomes_21 rfl rfl ?_
  refine J.getR hG ciX2 hb.1 2 2 rfl (Nat.le_of_ble_eq_true rfl) rfl fl_X2_18 dX2_becomes_22 ?_
  refine J.iconst hG dX2_becomes_25 (by decide) ?_
  refine J.bipush hG dX2_becomes_26 (by decide) (by decide) ?_
  refine J.copy hG ha.2.1 hb.2.1 (by omega) (by omega) (by omega) ml_X2_28 (Nat.le_of_ble_eq_true rfl) (Nat.le_of_ble_eq_true rfl) dX2_becomes_28 ?_
  refine J.aload_n hG dX2_becomes_31 rfl rfl ?_
  refine J.getR hG ciX2 ha.1 3 3 rfl (Nat.le_of_ble_eq_true rfl) rfl fl_X2_22 dX2_becomes_32 ?_
  refine J.iconst hG dX2_becomes_35 (by decide) ?_
  refine J.aload_n hG dX2_becomes_36 rfl rfl ?_
  refine J.getR hG ciX2 hb.1 3 3 rfl (Nat.le_of_ble_eq_true rfl) rfl fl_X2_22 dX2_becomes_37 ?_
  refine J.iconst hG dX2_becomes_40 (by decide) ?_
  refine J.iconst hG dX2_becomes_41 (by decide) ?_
  refine J.copy hG ha.2.2.1 hb.2.2.1 (by omega) (by omega) (by omega) ml_X2_28 (Nat.le_of_ble_eq_true rfl) (Nat.le_of_ble_eq_true rfl) dX2_becomes_42 ?_
  refine J.aload_n hG dX2_becomes_45 rfl rfl ?_
  refine J.getR hG ciX2 ha.1 4 4 rfl (Nat.le_of_ble_eq_true rfl) rfl fl_X2_25 dX2_becomes_46 ?_
  refine J.iconst hG dX2_becomes_49 (by decide) ?_
  refine J.aload_n hG dX2_becomes_50 rfl rfl ?_
  refine J.getR hG ciX2 hb.1 4 4 rfl (Nat.le_of_ble_eq_true rfl) rfl fl_X2_25 dX2_becomes_51 ?_
  refine J.iconst hG dX2_becomes_54 (by decide) ?_
  refine J.iconst hG dX2_becomes_55 (by decide) ?_
  refine J.copy hG ha.2.2.2 hb.2.2.2 (by omega) (by omega) (by omega) ml_X2_28 (Nat.le_of_ble_eq_true rfl) (Nat.le_of_ble_eq_true rfl) dX2_becomes_56 ?_
  refine J.vret hG dX2_becomes_59 ?_
  rw [hX]; dsimp only
  exact ⟨rfl, rfl⟩

set_option maxRecDepth 100000 in
set_option maxHeartbeats 4000000 in
theorem X3_remembers (μ : Mem) (hp : XP μ) : CT TX md_X3_remembers [aR 21, aR 17] μ (fun rv μ1 => rv = none ∧ μ1 = rem μ) := by
  refine CT.of (Nat.le_of_ble_eq_true rfl) (by decide) rfl (Nat.le_of_ble_eq_true rfl) (fun X hG hX => ?_)
  have hG : G TX X RX3 cX3_remembers 2 2 51 none := hG
  show J TX X 2 0 [some (aR 21), some (aR 17)] [] μ
  obtain ⟨p1, p2, p3, p4⟩ := hp
  have e21 : bec μ 17 (23 + 4 * (μ 21 1).toNat) 21 = μ 21 := bec_cell _ _ _ _ (by omega)
  refine J.aload_n hG dX3_remembers_0 rfl rfl ?_
  refine J.getR hG ciX3 rfl 2 2 rfl (Nat.le_of_ble_eq_true rfl) rfl fl_X3_20 dX3_remembers_1 ?_
  refine J.aload_n hG dX3_remembers_4 rfl rfl ?_
  refine J.getI hG ciX3 rfl 1 1 rfl (Nat.le_of_ble_eq_true rfl) rfl fl_X3_15 dX3_remembers_5 ?_
  refine J.aald hG rfl (by omega) (by omega) (by exact ring_ref _ p3 p4) dX3_remembers_8 ?_
  refine J.aload_n hG dX3_remembers_9 rfl rfl ?_
  refine J.callV hG (X2_becomes _ _ _ mom_17 (mom_ring _ (by omega))) ok_X2_becomes ml_X3_25 (mom_ring _ (by omega)).1 rfl rfl rfl (Nat.le_of_ble_eq_true rfl) ⟨Nat.le_of_ble_eq_true rfl, Nat.le_of_ble_eq_true rfl⟩ dX3_remembers_10 rfl (fun r1 μ1 hp1 => ?_)
  obtain ⟨rfl, rfl⟩ := hp1
  refine J.aload_n hG dX3_remembers_13 rfl rfl ?_
  refine J.aload_n hG dX3_remembers_14 rfl rfl ?_
  refine J.getI hG ciX3 rfl 1 1 rfl (Nat.le_of_ble_eq_true rfl) rfl fl_X3_15 dX3_remembers_15 ?_
  refine J.iconst hG dX3_remembers_18 (by decide) ?_
  refine J.iadd hG dX3_remembers_19 (fun _ _ => (by rw [e21]; omega)) ?_
  refine J.bipush hG dX3_remembers_20 (by decide) (by decide) ?_
  refine J.irem hG dX3_remembers_22 (by first | decide | (rw [e21]; omega)) (by first | decide | (rw [e21]; omega)) ?_
  refine J.putI hG ciX3 rfl 1 1 rfl (Nat.le_of_ble_eq_true rfl) rfl fl_X3_15 rfl rfl dX3_remembers_23 ?_
  refine J.aload_n hG dX3_remembers_26 rfl rfl ?_
  refine J.bipush hG dX3_remembers_27 (by decide) (by decide) ?_
  refine J.aload_n hG dX3_remembers_29 rfl rfl ?_
  refine J.getI hG ciX3 rfl 0 0 rfl (Nat.le_of_ble_eq_true rfl) rfl fl_X3_9 dX3_remembers_30 ?_
  refine J.iconst hG dX3_remembers_33 (by decide) ?_
  refine J.iadd hG dX3_remembers_34 (fun _ _ => (by rw [up_ne _ (by decide), e21]; omega)) ?_
  refine J.mmin hG ml_X3_29 (Nat.le_of_ble_eq_true rfl) (Nat.le_of_ble_eq_true rfl) dX3_remembers_35 ?_
  refine J.putI hG ciX3 rfl 0 0 rfl (Nat.le_of_ble_eq_true rfl) rfl fl_X3_9 rfl rfl dX3_remembers_38 ?_
  refine J.vret hG dX3_remembers_41 ?_
  rw [hX]; dsimp only
  exact ⟨rfl, rfl⟩

set_option maxRecDepth 100000 in
set_option maxHeartbeats 4000000 in
theorem X3_givesBack (μ : Mem) (hp : XP μ) : CT TX md_X3_givesBack [aR 21, aR 17] μ (fun rv μ1 => (μ 21 0 = 0 ∧ rv = some (aI 0) ∧ μ = μ1) ∨ (¬ μ 21 0 = 0 ∧ rv = some (aI 1) ∧ μ1 = gvb μ)) := by
  refine CT.of (Nat.le_of_ble_eq_true rfl) (by decide) rfl (Nat.le_of_ble_eq_true rfl) (fun X hG hX => ?_)
  have hG : G TX X RX3 cX3_givesBack 2 2 51 (some .boolean) := hG
  show J TX X 2 0 [some (aR 21), some (aR 17)] [] μ
  obtain ⟨p1, p2, p3, p4⟩ := hp
  have r1 : 0 ≤ (μ 21 1 + 10 - 1) % 10 := Int.emod_nonneg _ (by omega)
  have r2 : (μ 21 1 + 10 - 1) % 10 < 10 := Int.emod_lt_of_pos _ (by omega)
  have e0 : ∀ x, up μ 21 1 x 21 0 = μ 21 0 := fun x => up_ne _ (by decide)
  have e1 : ∀ x y, up (up μ 21 1 x) 21 0 y 21 1 = x := fun x y => by rw [up_ne _ (by decide), up_self]
  refine J.aload_n hG dX3_givesBack_0 rfl rfl ?_
  refine J.getI hG ciX3 rfl 0 0 rfl (Nat.le_of_ble_eq_true rfl) rfl fl_X3_9 dX3_givesBack_1 ?_
  refine J.if_ne hG 9 dX3_givesBack_4 rfl (fun h4 => ?_) (fun h4 => ?_)
  · refine J.aload_n hG dX3_givesBack_9 rfl rfl ?_
    refine J.aload_n hG dX3_givesBack_10 rfl rfl ?_
    refine J.getI hG ciX3 rfl 1 1 rfl (Nat.le_of_ble_eq_true rfl) rfl fl_X3_15 dX3_givesBack_11 ?_
    refine J.bipush hG dX3_givesBack_14 (by decide) (by decide) ?_
    refine J.iadd hG dX3_givesBack_16 (fun _ _ => (by omega)) ?_
    refine J.iconst hG dX3_givesBack_17 (by decide) ?_
    refine J.isub hG dX3_givesBack_18 (fun _ _ => (by omega)) ?_
    refine J.bipush hG dX3_givesBack_19 (by decide) (by decide) ?_
    refine J.irem hG dX3_givesBack_21 (by omega) (by omega) ?_
    refine J.putI hG ciX3 rfl 1 1 rfl (Nat.le_of_ble_eq_true rfl) rfl fl_X3_15 rfl rfl dX3_givesBack_22 ?_
    refine J.aload_n hG dX3_givesBack_25 rfl rfl ?_
    refine J.dup hG dX3_givesBack_26 (fun _ => rfl) ?_
    refine J.getI hG ciX3 rfl 0 0 rfl (Nat.le_of_ble_eq_true rfl) rfl fl_X3_9 dX3_givesBack_27 ?_
    refine J.iconst hG dX3_givesBack_30 (by decide) ?_
    refine J.isub hG dX3_givesBack_31 (fun _ _ => (by rw [e0]; omega)) ?_
    refine J.putI hG ciX3 rfl 0 0 rfl (Nat.le_of_ble_eq_true rfl) rfl fl_X3_9 rfl rfl dX3_givesBack_32 ?_
    refine J.aload_n hG dX3_givesBack_35 rfl rfl ?_
    refine J.aload_n hG dX3_givesBack_36 rfl rfl ?_
    refine J.getR hG ciX3 rfl 2 2 rfl (Nat.le_of_ble_eq_true rfl) rfl fl_X3_20 dX3_givesBack_37 ?_
    refine J.aload_n hG dX3_givesBack_40 rfl rfl ?_
    refine J.getI hG ciX3 rfl 1 1 rfl (Nat.le_of_ble_eq_true rfl) rfl fl_X3_15 dX3_givesBack_41 ?_
    refine J.aald hG rfl (by rw [e1]; omega) (by rw [e1]; omega) (by exact ring_ref _ (by rw [e1]; omega) (by rw [e1]; omega)) dX3_givesBack_44 ?_
    refine J.callV hG (X2_becomes _ _ _ (mom_ring _ (by rw [e1]; omega)) mom_17) ok_X2_becomes ml_X3_25 rfl rfl rfl rfl (Nat.le_of_ble_eq_true rfl) ⟨Nat.le_of_ble_eq_true rfl, Nat.le_of_ble_eq_true rfl⟩ dX3_givesBack_45 rfl (fun r1 μ1 hp1 => ?_)
    obtain ⟨rfl, rfl⟩ := hp1
    refine J.iconst hG dX3_givesBack_48 (by decide) ?_
    refine J.zret hG (by first | exact Or.inl rfl | exact Or.inr rfl | assumption | (split <;> first | exact Or.inl rfl | exact Or.inr rfl)) dX3_givesBack_49 ?_
    rw [hX]; dsimp only
    exact Or.inr ⟨by omega, rfl, rfl⟩
  · refine J.iconst hG dX3_givesBack_7 (by decide) ?_
    refine J.zret hG (by first | exact Or.inl rfl | exact Or.inr rfl | assumption | (split <;> first | exact Or.inl rfl | exact Or.inr rfl)) dX3_givesBack_8 ?_
    rw [hX]; dsimp only
    exact Or.inl ⟨by omega, rfl, rfl⟩

set_option maxRecDepth 100000 in
set_option maxHeartbeats 4000000 in
theorem X5_adds (μ : Mem) (x : Int) (h : 0 ≤ μ 1 0 ∧ μ 1 0 ≤ 200) : CT TX md_X5_adds [aR 1, aI x] μ (fun rv μ1 => (μ 1 0 = 200 ∧ rv = some (aI 0) ∧ μ = μ1) ∨ (¬ μ 1 0 = 200 ∧ rv = some (aI 1) ∧ μ1 = up (up μ 10 (μ 1 0) x) 1 0 (up μ 10 (μ 1 0) x 1 0 + 1))) := by
  refine CT.of (Nat.le_of_ble_eq_true rfl) (by decide) rfl (Nat.le_of_ble_eq_true rfl) (fun X hG hX => ?_)
  have hG : G TX X RX5 cX5_adds 2 0 0 (some .boolean) := hG
  show J TX X 2 0 [some (aR 1), some (aI x)] [] μ
  refine J.aload_n hG dX5_adds_0 rfl rfl ?_
  refine J.getI hG ciX5 rfl 0 0 rfl (Nat.le_of_ble_eq_true rfl) rfl fl_X5_9 dX5_adds_1 ?_
  refine J.sipush hG dX5_adds_4 (by decide) (by decide) ?_
  refine J.icmp_lt hG 12 dX5_adds_7 rfl (fun h7 => ?_) (fun h7 => ?_)
  · refine J.aload_n hG dX5_adds_12 rfl rfl ?_
    refine J.getR hG ciX5 rfl 3 3 rfl (Nat.le_of_ble_eq_true rfl) rfl fl_X5_29 dX5_adds_13 ?_
    refine J.aload_n hG dX5_adds_16 rfl rfl ?_
    refine J.getI hG ciX5 rfl 0 0 rfl (Nat.le_of_ble_eq_true rfl) rfl fl_X5_9 dX5_adds_17 ?_
    refine J.iload_n hG dX5_adds_20 rfl rfl ?_
    refine J.iast hG rfl (by omega) (by omega) dX5_adds_21 ?_
    refine J.aload_n hG dX5_adds_22 rfl rfl ?_
    refine J.dup hG dX5_adds_23 (fun _ => rfl) ?_
    refine J.getI hG ciX5 rfl 0 0 rfl (Nat.le_of_ble_eq_true rfl) rfl fl_X5_9 dX5_adds_24 ?_
    refine J.iconst hG dX5_adds_27 (by decide) ?_
    refine J.iadd hG dX5_adds_28 (fun _ _ => (by rw [up_cell _ _ _ (by decide)]; omega)) ?_
    refine J.putI hG ciX5 rfl 0 0 rfl (Nat.le_of_ble_eq_true rfl) rfl fl_X5_9 rfl rfl dX5_adds_29 ?_
    refine J.iconst hG dX5_adds_32 (by decide) ?_
    refine J.zret hG (by first | exact Or.inl rfl | exact Or.inr rfl | assumption | (split <;> first | exact Or.inl rfl | exact Or.inr rfl)) dX5_adds_33 ?_
    rw [hX]; dsimp only
    exact Or.inr ⟨by omega, rfl, rfl⟩
  · refine J.iconst hG dX5_adds_10 (by decide) ?_
    refine J.zret hG (by first | exact Or.inl rfl | exact Or.inr rfl | assumption | (split <;> first | exact Or.inl rfl | exact Or.inr rfl)) dX5_adds_11 ?_
    rw [hX]; dsimp only
    exact Or.inl ⟨by omega, rfl, rfl⟩

set_option maxRecDepth 100000 in
set_option maxHeartbeats 4000000 in
theorem X6_type (μ : Mem) (x : Int) (h : 0 ≤ μ 1 0 ∧ μ 1 0 ≤ 200) : CT TX md_X6_type [aR 0, aI x] μ (fun rv μ1 => if ¬ (0 ≤ x ∧ x ≤ 255) then rv = some (aI (-1)) ∧ μ1 = μ else if μ 1 0 = 200 then rv = some (aI (-3)) ∧ μ1 = μ else rv = some (aI (μ 1 0 + 1)) ∧ μ1 = up (up μ 10 (μ 1 0) x) 1 0 (μ 1 0 + 1)) := by
  refine CT.of (Nat.le_of_ble_eq_true rfl) (by decide) rfl (Nat.le_of_ble_eq_true rfl) (fun X hG hX => ?_)
  have hG : G TX X RX6 cX6_type 2 1 22 (some .int) := hG
  show J TX X 2 0 [some (aR 0), some (aI x)] [] μ
  refine J.iload_n hG dX6_type_0 rfl rfl ?_
  refine J.iconst hG dX6_type_1 (by decide) ?_
  refine J.sipush hG dX6_type_2 (by decide) (by decide) ?_
  refine J.callS hG (X6_within _ _ _ _) ok_X6_within ml_X6_70 rfl (Nat.le_of_ble_eq_true rfl) ⟨Nat.le_of_ble_eq_true rfl, Nat.le_of_ble_eq_true rfl⟩ dX6_type_5 rfl (fun r1 μ1 hp1 => ?_)
  obtain ⟨rfl, rfl⟩ := hp1
  refine J.ifb_ne hG 13 dX6_type_8 rfl (fun h8 => ?_) (fun h8 => ?_)
  · refine J.aload_n hG dX6_type_13 rfl rfl ?_
    refine J.getR hG ciX6 rfl 0 0 rfl (Nat.le_of_ble_eq_true rfl) rfl fl_X6_10 dX6_type_14 ?_
    refine J.iload_n hG dX6_type_17 rfl rfl ?_
    refine J.callV hG (X5_adds _ _ h) ok_X5_adds ml_X6_74 rfl rfl rfl rfl (Nat.le_of_ble_eq_true rfl) ⟨Nat.le_of_ble_eq_true rfl, Nat.le_of_ble_eq_true rfl⟩ dX6_type_18 rfl (fun r1 μ1 hp1 => ?_)
    rcases hp1 with ⟨hq, rfl, rfl⟩ | ⟨hq, rfl, rfl⟩
    · refine J.if_eq hG 34 dX6_type_21 rfl (fun h21 => ?_) (fun h21 => absurd h21 (by omega))
      refine J.bipush hG dX6_type_34 (by decide) (by decide) ?_
      refine J.iret hG dX6_type_36 ?_
      rw [hX]; dsimp only
      rw [if_neg (by omega), if_pos hq]
      exact ⟨rfl, rfl⟩
    · refine J.if_eq hG 34 dX6_type_21 rfl (fun h21 => absurd h21 (by omega)) (fun h21 => ?_)
      refine J.aload_n hG dX6_type_24 rfl rfl ?_
      refine J.getR hG ciX6 rfl 0 0 rfl (Nat.le_of_ble_eq_true rfl) rfl fl_X6_10 dX6_type_25 ?_
      refine J.getI hG ciX5 rfl 0 0 rfl (Nat.le_of_ble_eq_true rfl) rfl fl_X6_78 dX6_type_28 ?_
      refine J.goto hG 36 dX6_type_31 rfl ?_
      refine J.iret hG dX6_type_36 ?_
      rw [hX]; dsimp only
      rw [if_neg (by omega), if_neg hq]
      rw [up_self, up_cell _ _ _ (by decide)]
      exact ⟨rfl, rfl⟩
  · refine J.iconst hG dX6_type_11 (by decide) ?_
    refine J.iret hG dX6_type_12 ?_
    rw [hX]; dsimp only
    rw [if_pos (by omega)]
    exact ⟨rfl, rfl⟩

set_option maxRecDepth 100000 in
set_option maxHeartbeats 4000000 in
theorem X6_clear (μ : Mem)  : CT TX md_X6_clear [aR 0] μ (fun rv μ1 => rv = some (aI (μ 1 0)) ∧ μ1 = up μ 1 0 0) := by
  refine CT.of (Nat.le_of_ble_eq_true rfl) (by decide) rfl (Nat.le_of_ble_eq_true rfl) (fun X hG hX => ?_)
  have hG : G TX X RX6 cX6_clear 2 0 0 (some .int) := hG
  show J TX X 2 0 [some (aR 0), none] [] μ
  refine J.aload_n hG dX6_clear_0 rfl rfl ?_
  refine J.getR hG ciX6 rfl 0 0 rfl (Nat.le_of_ble_eq_true rfl) rfl fl_X6_10 dX6_clear_1 ?_
  refine J.getI hG ciX5 rfl 0 0 rfl (Nat.le_of_ble_eq_true rfl) rfl fl_X6_78 dX6_clear_4 ?_
  refine J.istore_n hG dX6_clear_7 rfl (Nat.le_of_ble_eq_true rfl) ?_
  refine J.aload_n hG dX6_clear_8 rfl rfl ?_
  refine J.getR hG ciX6 rfl 0 0 rfl (Nat.le_of_ble_eq_true rfl) rfl fl_X6_10 dX6_clear_9 ?_
  refine J.iconst hG dX6_clear_12 (by decide) ?_
  refine J.putI hG ciX5 rfl 0 0 rfl (Nat.le_of_ble_eq_true rfl) rfl fl_X6_78 rfl rfl dX6_clear_13 ?_
  refine J.iload_n hG dX6_clear_16 rfl rfl ?_
  refine J.iret hG dX6_clear_17 ?_
  rw [hX]; dsimp only
  exact ⟨rfl, rfl⟩

set_option maxRecDepth 100000 in
set_option maxHeartbeats 4000000 in
theorem X6_undo (μ : Mem) (hp : XP μ) : CT TX md_X6_undo [aR 0] μ (fun rv μ1 => if μ 21 0 = 0 then rv = some (aI (-2)) ∧ μ1 = μ else rv = some (aI (gvb μ 21 0)) ∧ μ1 = gvb μ) := by
  refine CT.of (Nat.le_of_ble_eq_true rfl) (by decide) rfl (Nat.le_of_ble_eq_true rfl) (fun X hG hX => ?_)
  have hG : G TX X RX6 cX6_undo 1 3 72 (some .int) := hG
  show J TX X 1 0 [some (aR 0)] [] μ
  refine J.aload_n hG dX6_undo_0 rfl rfl ?_
  refine J.getR hG ciX6 rfl 3 3 rfl (Nat.le_of_ble_eq_true rfl) rfl fl_X6_33 dX6_undo_1 ?_
  refine J.aload_n hG dX6_undo_4 rfl rfl ?_
  refine J.getR hG ciX6 rfl 2 2 rfl (Nat.le_of_ble_eq_true rfl) rfl fl_X6_26 dX6_undo_5 ?_
  refine J.callV hG (X3_givesBack _ hp) ok_X3_givesBack ml_X6_168 rfl rfl rfl rfl (Nat.le_of_ble_eq_true rfl) ⟨Nat.le_of_ble_eq_true rfl, Nat.le_of_ble_eq_true rfl⟩ dX6_undo_8 rfl (fun r1 μ1 hp1 => ?_)
  rcases hp1 with ⟨hq, rfl, rfl⟩ | ⟨hq, rfl, rfl⟩
  · refine J.if_eq hG 24 dX6_undo_11 rfl (fun h11 => ?_) (fun h11 => absurd h11 (by omega))
    refine J.bipush hG dX6_undo_24 (by decide) (by decide) ?_
    refine J.iret hG dX6_undo_26 ?_
    rw [hX]; dsimp only
    rw [if_pos hq]
    exact ⟨rfl, rfl⟩
  · refine J.if_eq hG 24 dX6_undo_11 rfl (fun h11 => absurd h11 (by omega)) (fun h11 => ?_)
    refine J.aload_n hG dX6_undo_14 rfl rfl ?_
    refine J.getR hG ciX6 rfl 3 3 rfl (Nat.le_of_ble_eq_true rfl) rfl fl_X6_33 dX6_undo_15 ?_
    refine J.getI hG ciX3 rfl 0 0 rfl (Nat.le_of_ble_eq_true rfl) rfl fl_X6_99 dX6_undo_18 ?_
    refine J.goto hG 26 dX6_undo_21 rfl ?_
    refine J.iret hG dX6_undo_26 ?_
    rw [hX]; dsimp only
    rw [if_neg hq]
    exact ⟨rfl, rfl⟩

set_option maxRecDepth 100000 in
set_option maxHeartbeats 4000000 in
theorem X6_keep (μ : Mem) (i : Int) : CT TX md_X6_keep [aR 0, aI i] μ (fun rv μ1 => if ¬ (0 ≤ i ∧ i ≤ 1) then rv = some (aI (-1)) ∧ μ1 = μ else rv = some (aI (μ 17 0)) ∧ μ1 = up (bec μ 17 (77 + 4 * i.toNat)) 64 i 1) := by
  refine CT.of (Nat.le_of_ble_eq_true rfl) (by decide) rfl (Nat.le_of_ble_eq_true rfl) (fun X hG hX => ?_)
  have hG : G TX X RX6 cX6_keep 2 2 51 (some .int) := hG
  show J TX X 2 0 [some (aR 0), some (aI i)] [] μ
  refine J.iload_n hG dX6_keep_0 rfl rfl ?_
  refine J.iconst hG dX6_keep_1 (by decide) ?_
  refine J.iconst hG dX6_keep_2 (by decide) ?_
  refine J.callS hG (X6_within _ _ _ _) ok_X6_within ml_X6_70 rfl (Nat.le_of_ble_eq_true rfl) ⟨Nat.le_of_ble_eq_true rfl, Nat.le_of_ble_eq_true rfl⟩ dX6_keep_3 rfl (fun r1 μ1 hp1 => ?_)
  obtain ⟨rfl, rfl⟩ := hp1
  refine J.ifb_ne hG 11 dX6_keep_6 rfl (fun h6 => ?_) (fun h6 => ?_)
  · refine J.aload_n hG dX6_keep_11 rfl rfl ?_
    refine J.getR hG ciX6 rfl 4 4 rfl (Nat.le_of_ble_eq_true rfl) rfl fl_X6_37 dX6_keep_12 ?_
    refine J.iload_n hG dX6_keep_15 rfl rfl ?_
    refine J.aald hG rfl (by omega) (by omega) (by exact img_ref _ (by omega) (by omega)) dX6_keep_16 ?_
    refine J.aload_n hG dX6_keep_17 rfl rfl ?_
    refine J.getR hG ciX6 rfl 2 2 rfl (Nat.le_of_ble_eq_true rfl) rfl fl_X6_26 dX6_keep_18 ?_
    refine J.callV hG (X2_becomes _ _ _ mom_17 (mom_img _ (by omega))) ok_X2_becomes ml_X6_96 (mom_img _ (by omega)).1 rfl rfl rfl (Nat.le_of_ble_eq_true rfl) ⟨Nat.le_of_ble_eq_true rfl, Nat.le_of_ble_eq_true rfl⟩ dX6_keep_21 rfl (fun r1 μ1 hp1 => ?_)
    obtain ⟨rfl, rfl⟩ := hp1
    refine J.aload_n hG dX6_keep_24 rfl rfl ?_
    refine J.getR hG ciX6 rfl 5 5 rfl (Nat.le_of_ble_eq_true rfl) rfl fl_X6_41 dX6_keep_25 ?_
    refine J.iload_n hG dX6_keep_28 rfl rfl ?_
    refine J.iconst hG dX6_keep_29 (by decide) ?_
    refine J.zast hG rfl (by omega) (by omega) (by first | exact Or.inl rfl | exact Or.inr rfl) dX6_keep_30 ?_
    refine J.aload_n hG dX6_keep_31 rfl rfl ?_
    refine J.getR hG ciX6 rfl 2 2 rfl (Nat.le_of_ble_eq_true rfl) rfl fl_X6_26 dX6_keep_32 ?_
    refine J.getI hG ciX2 rfl 0 0 rfl (Nat.le_of_ble_eq_true rfl) rfl fl_X6_144 dX6_keep_35 ?_
    refine J.iret hG dX6_keep_38 ?_
    rw [hX]; dsimp only
    rw [if_neg (by omega), up_cell _ _ _ (by decide), bec_cell _ _ _ _ (by omega)]
    exact ⟨rfl, rfl⟩
  · refine J.iconst hG dX6_keep_9 (by decide) ?_
    refine J.iret hG dX6_keep_10 ?_
    rw [hX]; dsimp only
    rw [if_pos (by omega)]
    exact ⟨rfl, rfl⟩

set_option maxRecDepth 100000 in
set_option maxHeartbeats 4000000 in
theorem X6_back (μ : Mem) (i : Int) : CT TX md_X6_back [aR 0, aI i] μ (fun rv μ1 => if ¬ (0 ≤ i ∧ i ≤ 1) then rv = some (aI (-1)) ∧ μ1 = μ else if μ 64 i = 0 then rv = some (aI (-2)) ∧ μ1 = μ else rv = some (aI (bec μ (77 + 4 * i.toNat) 17 17 0)) ∧ μ1 = up (bec μ (77 + 4 * i.toNat) 17) 21 0 0) := by
  refine CT.of (Nat.le_of_ble_eq_true rfl) (by decide) rfl (Nat.le_of_ble_eq_true rfl) (fun X hG hX => ?_)
  have hG : G TX X RX6 cX6_back 2 2 51 (some .int) := hG
  show J TX X 2 0 [some (aR 0), some (aI i)] [] μ
  refine J.iload_n hG dX6_back_0 rfl rfl ?_
  refine J.iconst hG dX6_back_1 (by decide) ?_
  refine J.iconst hG dX6_back_2 (by decide) ?_
  refine J.callS hG (X6_within _ _ _ _) ok_X6_within ml_X6_70 rfl (Nat.le_of_ble_eq_true rfl) ⟨Nat.le_of_ble_eq_true rfl, Nat.le_of_ble_eq_true rfl⟩ dX6_back_3 rfl (fun r1 μ1 hp1 => ?_)
  obtain ⟨rfl, rfl⟩ := hp1
  refine J.ifb_ne hG 11 dX6_back_6 rfl (fun h6 => ?_) (fun h6 => ?_)
  · refine J.aload_n hG dX6_back_11 rfl rfl ?_
    refine J.getR hG ciX6 rfl 5 5 rfl (Nat.le_of_ble_eq_true rfl) rfl fl_X6_41 dX6_back_12 ?_
    refine J.iload_n hG dX6_back_15 rfl rfl ?_
    refine J.zald hG rfl (by omega) (by omega) dX6_back_16 ?_
    refine J.if_ne hG 23 dX6_back_17 rfl (fun h17 => ?_) (fun h17 => ?_)
    · refine J.aload_n hG dX6_back_23 rfl rfl ?_
      refine J.getR hG ciX6 rfl 2 2 rfl (Nat.le_of_ble_eq_true rfl) rfl fl_X6_26 dX6_back_24 ?_
      refine J.aload_n hG dX6_back_27 rfl rfl ?_
      refine J.getR hG ciX6 rfl 4 4 rfl (Nat.le_of_ble_eq_true rfl) rfl fl_X6_37 dX6_back_28 ?_
      refine J.iload_n hG dX6_back_31 rfl rfl ?_
      refine J.aald hG rfl (by omega) (by omega) (by exact img_ref _ (by omega) (by omega)) dX6_back_32 ?_
      refine J.callV hG (X2_becomes _ _ _ (mom_img _ (by omega)) mom_17) ok_X2_becomes ml_X6_96 rfl rfl rfl rfl (Nat.le_of_ble_eq_true rfl) ⟨Nat.le_of_ble_eq_true rfl, Nat.le_of_ble_eq_true rfl⟩ dX6_back_33 rfl (fun r1 μ1 hp1 => ?_)
      obtain ⟨rfl, rfl⟩ := hp1
      refine J.aload_n hG dX6_back_36 rfl rfl ?_
      refine J.getR hG ciX6 rfl 3 3 rfl (Nat.le_of_ble_eq_true rfl) rfl fl_X6_33 dX6_back_37 ?_
      refine J.iconst hG dX6_back_40 (by decide) ?_
      refine J.putI hG ciX3 rfl 0 0 rfl (Nat.le_of_ble_eq_true rfl) rfl fl_X6_99 rfl rfl dX6_back_41 ?_
      refine J.aload_n hG dX6_back_44 rfl rfl ?_
      refine J.getR hG ciX6 rfl 2 2 rfl (Nat.le_of_ble_eq_true rfl) rfl fl_X6_26 dX6_back_45 ?_
      refine J.getI hG ciX2 rfl 0 0 rfl (Nat.le_of_ble_eq_true rfl) rfl fl_X6_144 dX6_back_48 ?_
      refine J.iret hG dX6_back_51 ?_
      rw [hX]; dsimp only
      rw [if_neg (by omega), if_neg (by omega), up_cell _ _ _ (by decide)]
      exact ⟨rfl, rfl⟩
    · refine J.bipush hG dX6_back_20 (by decide) (by decide) ?_
      refine J.iret hG dX6_back_22 ?_
      rw [hX]; dsimp only
      rw [if_neg (by omega), if_pos (by omega)]
      exact ⟨rfl, rfl⟩
  · refine J.iconst hG dX6_back_9 (by decide) ?_
    refine J.iret hG dX6_back_10 ?_
    rw [hX]; dsimp only
    rw [if_pos (by omega)]
    exact ⟨rfl, rfl⟩

set_option maxRecDepth 100000 in
set_option maxHeartbeats 4000000 in
theorem X6_count (μ : Mem) (w : Int) : CT TX md_X6_count [aR 0, aI w] μ (fun rv μ1 => rv = some (aI (if w = 0 then μ 13 0 else if w = 1 then μ 13 1 else if w = 2 then μ 13 2 else if w = 3 then μ 65 0 else if w = 4 then μ 71 0 else if w = 5 then μ 1 0 else if w = 6 then μ 13 3 else -1)) ∧ μ = μ1) := by
  refine CT.of (Nat.le_of_ble_eq_true rfl) (by decide) rfl (Nat.le_of_ble_eq_true rfl) (fun X hG hX => ?_)
  have hG : G TX X RX6 cX6_count 2 0 0 (some .int) := hG
  show J TX X 2 0 [some (aR 0), some (aI w)] [] μ
  refine J.iload_n hG dX6_count_0 rfl rfl ?_
  rcases (show w = 0 ∨ w = 1 ∨ w = 2 ∨ w = 3 ∨ w = 4 ∨ w = 5 ∨ w = 6 ∨ (w < 0 ∨ 6 < w) by omega) with rfl | rfl | rfl | rfl | rfl | rfl | rfl | hw1
  · refine J.tabIn hG 44 dX6_count_1 (by decide) (by decide) (off := 43) rfl rfl ?_
    refine J.aload_n hG dX6_count_44 rfl rfl ?_
    refine J.getR hG ciX6 rfl 1 1 rfl (Nat.le_of_ble_eq_true rfl) rfl fl_X6_19 dX6_count_45 ?_
    refine J.getI hG ciX1 rfl 0 0 rfl (Nat.le_of_ble_eq_true rfl) rfl fl_X6_222 dX6_count_48 ?_
    refine J.iret hG dX6_count_51 ?_
    rw [hX]; dsimp only
    exact ⟨by congr 2; try ((repeat' split) <;> first | rfl | (exfalso; omega) | omega), rfl⟩
  · refine J.tabIn hG 52 dX6_count_1 (by decide) (by decide) (off := 51) rfl rfl ?_
    refine J.aload_n hG dX6_count_52 rfl rfl ?_
    refine J.getR hG ciX6 rfl 1 1 rfl (Nat.le_of_ble_eq_true rfl) rfl fl_X6_19 dX6_count_53 ?_
    refine J.getI hG ciX1 rfl 1 1 rfl (Nat.le_of_ble_eq_true rfl) rfl fl_X6_246 dX6_count_56 ?_
    refine J.iret hG dX6_count_59 ?_
    rw [hX]; dsimp only
    exact ⟨by congr 2; try ((repeat' split) <;> first | rfl | (exfalso; omega) | omega), rfl⟩
  · refine J.tabIn hG 60 dX6_count_1 (by decide) (by decide) (off := 59) rfl rfl ?_
    refine J.aload_n hG dX6_count_60 rfl rfl ?_
    refine J.getR hG ciX6 rfl 1 1 rfl (Nat.le_of_ble_eq_true rfl) rfl fl_X6_19 dX6_count_61 ?_
    refine J.getI hG ciX1 rfl 2 2 rfl (Nat.le_of_ble_eq_true rfl) rfl fl_X6_249 dX6_count_64 ?_
    refine J.iret hG dX6_count_67 ?_
    rw [hX]; dsimp only
    exact ⟨by congr 2; try ((repeat' split) <;> first | rfl | (exfalso; omega) | omega), rfl⟩
  · refine J.tabIn hG 68 dX6_count_1 (by decide) (by decide) (off := 67) rfl rfl ?_
    refine J.aload_n hG dX6_count_68 rfl rfl ?_
    refine J.getR hG ciX6 rfl 6 6 rfl (Nat.le_of_ble_eq_true rfl) rfl fl_X6_48 dX6_count_69 ?_
    refine J.getI hG ciX0 rfl 0 0 rfl (Nat.le_of_ble_eq_true rfl) rfl fl_X6_102 dX6_count_72 ?_
    refine J.iret hG dX6_count_75 ?_
    rw [hX]; dsimp only
    exact ⟨by congr 2; try ((repeat' split) <;> first | rfl | (exfalso; omega) | omega), rfl⟩
  · refine J.tabIn hG 76 dX6_count_1 (by decide) (by decide) (off := 75) rfl rfl ?_
    refine J.aload_n hG dX6_count_76 rfl rfl ?_
    refine J.getR hG ciX6 rfl 7 7 rfl (Nat.le_of_ble_eq_true rfl) rfl fl_X6_55 dX6_count_77 ?_
    refine J.getI hG ciX4 rfl 0 0 rfl (Nat.le_of_ble_eq_true rfl) rfl fl_X6_105 dX6_count_80 ?_
    refine J.iret hG dX6_count_83 ?_
    rw [hX]; dsimp only
    exact ⟨by congr 2; try ((repeat' split) <;> first | rfl | (exfalso; omega) | omega), rfl⟩
  · refine J.tabIn hG 84 dX6_count_1 (by decide) (by decide) (off := 83) rfl rfl ?_
    refine J.aload_n hG dX6_count_84 rfl rfl ?_
    refine J.getR hG ciX6 rfl 0 0 rfl (Nat.le_of_ble_eq_true rfl) rfl fl_X6_10 dX6_count_85 ?_
    refine J.getI hG ciX5 rfl 0 0 rfl (Nat.le_of_ble_eq_true rfl) rfl fl_X6_78 dX6_count_88 ?_
    refine J.iret hG dX6_count_91 ?_
    rw [hX]; dsimp only
    exact ⟨by congr 2; try ((repeat' split) <;> first | rfl | (exfalso; omega) | omega), rfl⟩
  · refine J.tabIn hG 92 dX6_count_1 (by decide) (by decide) (off := 91) rfl rfl ?_
    refine J.aload_n hG dX6_count_92 rfl rfl ?_
    refine J.getR hG ciX6 rfl 1 1 rfl (Nat.le_of_ble_eq_true rfl) rfl fl_X6_19 dX6_count_93 ?_
    refine J.getI hG ciX1 rfl 3 3 rfl (Nat.le_of_ble_eq_true rfl) rfl fl_X6_175 dX6_count_96 ?_
    refine J.iret hG dX6_count_99 ?_
    rw [hX]; dsimp only
    exact ⟨by congr 2; try ((repeat' split) <;> first | rfl | (exfalso; omega) | omega), rfl⟩
  · refine J.tabOut hG 100 dX6_count_1 hw1 rfl ?_
    refine J.iconst hG dX6_count_100 (by decide) ?_
    refine J.iret hG dX6_count_101 ?_
    rw [hX]; dsimp only
    exact ⟨by congr 2; try ((repeat' split) <;> first | rfl | (exfalso; omega) | omega), rfl⟩

set_option maxRecDepth 100000 in
set_option maxHeartbeats 4000000 in
theorem X6_trace (μ : Mem)  : CT TX md_X6_trace [aR 0] μ (fun rv μ1 => rv = some (aL (μ 1000 10)) ∧ μ = μ1) := by
  refine CT.of (Nat.le_of_ble_eq_true rfl) (by decide) rfl (Nat.le_of_ble_eq_true rfl) (fun X hG hX => ?_)
  have hG : G TX X RX6 cX6_trace 1 0 0 (some .long) := hG
  show J TX X 1 0 [some (aR 0)] [] μ
  refine J.aload_n hG dX6_trace_0 rfl rfl ?_
  refine J.getL hG ciX6 rfl 10 10 rfl (Nat.le_of_ble_eq_true rfl) 1000 rfl rfl fl_X6_66 dX6_trace_1 ?_
  refine J.lret hG dX6_trace_4 ?_
  rw [hX]; dsimp only
  exact ⟨rfl, rfl⟩

set_option maxRecDepth 100000 in
set_option maxHeartbeats 4000000 in
theorem X6_law (μ : Mem) (hB : XB μ) (hp : XP μ) (s w t : Int) : CT TX md_X6_law [aR 0, aI s, aI w, aI t] μ (fun rv μ1 => if ¬ ((0 ≤ s ∧ s < μ 13 0) ∧ (0 ≤ w ∧ w ≤ 3) ∧ (1 ≤ t ∧ t ≤ μ 14 s)) then rv = some (aI (-1)) ∧ μ1 = μ else rv = some (aI (pc4 (xBits μ1))) ∧ μ1 = up (up (rem μ) 19 s w) 20 s t) := by
  refine CT.of (Nat.le_of_ble_eq_true rfl) (by decide) rfl (Nat.le_of_ble_eq_true rfl) (fun X hG hX => ?_)
  have hG : G TX X RX6 cX6_law 4 6 144 (some .int) := hG
  show J TX X 4 0 [some (aR 0), some (aI s), some (aI w), some (aI t)] [] μ
  have hB2 := hB
  obtain ⟨h1, h2, h3, h4, h5, h6⟩ := hB2
  refine J.aload_n hG dX6_law_0 rfl rfl ?_
  refine J.iload_n hG dX6_law_1 rfl rfl ?_
  refine J.iload_n hG dX6_law_2 rfl rfl ?_
  refine J.iload_n hG dX6_law_3 rfl rfl ?_
  refine J.callV hG (X6_canBeLaw _ _ _ _ hB) ok_X6_canBeLaw ml_X6_156 rfl rfl rfl rfl (Nat.le_of_ble_eq_true rfl) ⟨Nat.le_of_ble_eq_true rfl, Nat.le_of_ble_eq_true rfl⟩ dX6_law_4 rfl (fun r1 μ1 hp1 => ?_)
  obtain ⟨rfl, rfl⟩ := hp1
  refine J.ifb_ne hG 12 dX6_law_7 rfl (fun h7 => ?_) (fun h7 => ?_)
  · refine J.aload_n hG dX6_law_12 rfl rfl ?_
    refine J.getR hG ciX6 rfl 3 3 rfl (Nat.le_of_ble_eq_true rfl) rfl fl_X6_33 dX6_law_13 ?_
    refine J.aload_n hG dX6_law_16 rfl rfl ?_
    refine J.getR hG ciX6 rfl 2 2 rfl (Nat.le_of_ble_eq_true rfl) rfl fl_X6_26 dX6_law_17 ?_
    refine J.callV hG (X3_remembers _ hp) ok_X3_remembers ml_X6_147 rfl rfl rfl rfl (Nat.le_of_ble_eq_true rfl) ⟨Nat.le_of_ble_eq_true rfl, Nat.le_of_ble_eq_true rfl⟩ dX6_law_20 rfl (fun r1 μ1 hp1 => ?_)
    obtain ⟨rfl, rfl⟩ := hp1
    refine J.aload_n hG dX6_law_23 rfl rfl ?_
    refine J.getR hG ciX6 rfl 2 2 rfl (Nat.le_of_ble_eq_true rfl) rfl fl_X6_26 dX6_law_24 ?_
    refine J.getR hG ciX2 rfl 3 3 rfl (Nat.le_of_ble_eq_true rfl) rfl fl_X6_109 dX6_law_27 ?_
    refine J.iload_n hG dX6_law_30 rfl rfl ?_
    refine J.iload_n hG dX6_law_31 rfl rfl ?_
    refine J.iast hG rfl (by omega) (by omega) dX6_law_32 ?_
    refine J.aload_n hG dX6_law_33 rfl rfl ?_
    refine J.getR hG ciX6 rfl 2 2 rfl (Nat.le_of_ble_eq_true rfl) rfl fl_X6_26 dX6_law_34 ?_
    refine J.getR hG ciX2 rfl 4 4 rfl (Nat.le_of_ble_eq_true rfl) rfl fl_X6_115 dX6_law_37 ?_
    refine J.iload_n hG dX6_law_40 rfl rfl ?_
    refine J.iload_n hG dX6_law_41 rfl rfl ?_
    refine J.iast hG rfl (by omega) (by omega) dX6_law_42 ?_
    refine J.aload_n hG dX6_law_43 rfl rfl ?_
    refine J.callV hG (X6_unlawfulLives _ (XB_of (rem_XB hB hp) (by rw [up_cell _ _ _ (by decide), up_cell _ _ _ (by decide)]) (by rw [up_cell _ _ _ (by decide), up_cell _ _ _ (by decide)]) (by rw [up_cell _ _ _ (by decide), up_cell _ _ _ (by decide)]) (by rw [up_cell _ _ _ (by decide), up_cell _ _ _ (by decide)]))) ok_X6_unlawfulLives ml_X6_159 rfl rfl rfl rfl (Nat.le_of_ble_eq_true rfl) ⟨Nat.le_of_ble_eq_true rfl, Nat.le_of_ble_eq_true rfl⟩ dX6_law_44 rfl (fun r1 μ1 hp1 => ?_)
    obtain ⟨rfl, rfl⟩ := hp1
    refine J.callS hG (J6_bitCount _ _ (by have := xBits_bound (up (up (rem μ) 19 s w) 20 s t) (by rw [up_cell _ _ _ (by decide), up_cell _ _ _ (by decide), rem_cell _ _ (by omega) hp]; omega); omega)) ok_J6_bitCount ml_X6_162 rfl (Nat.le_of_ble_eq_true rfl) ⟨Nat.le_of_ble_eq_true rfl, Nat.le_of_ble_eq_true rfl⟩ dX6_law_47 rfl (fun r1 μ1 hp1 => ?_)
    obtain ⟨rfl, rfl⟩ := hp1
    refine J.iret hG dX6_law_50 ?_
    rw [hX]; dsimp only
    rw [if_neg (by omega)]
    exact ⟨rfl, rfl⟩
  · refine J.iconst hG dX6_law_10 (by decide) ?_
    refine J.iret hG dX6_law_11 ?_
    rw [hX]; dsimp only
    rw [if_pos (by omega)]
    exact ⟨rfl, rfl⟩

set_option maxRecDepth 100000 in
set_option maxHeartbeats 4000000 in
theorem X6_changes (μ : Mem) (hB : XB μ) (hp : XP μ) (l s b : Int) : CT TX md_X6_changes [aR 0, aI l, aI s, aI b] μ (fun rv μ1 => if ¬ ((0 ≤ l ∧ l < μ 13 1) ∧ (0 ≤ s ∧ s < μ 13 0) ∧ (-9 ≤ b ∧ b ≤ 9)) then rv = some (aI (-1)) ∧ μ1 = μ else rv = some (aI (cl (μ 14 s) (μ 18 (l * 4 + s) + b))) ∧ μ1 = up (rem μ) 18 (l * 4 + s) (cl (μ 14 s) (μ 18 (l * 4 + s) + b))) := by
  refine CT.of (Nat.le_of_ble_eq_true rfl) (by decide) rfl (Nat.le_of_ble_eq_true rfl) (fun X hG hX => ?_)
  have hG : G TX X RX6 cX6_changes 5 3 72 (some .int) := hG
  show J TX X 5 0 [some (aR 0), some (aI l), some (aI s), some (aI b), none] [] μ
  have hB2 := hB
  obtain ⟨h1, h2, h3, h4, h5, h6⟩ := hB2
  have e18 : rem μ 18 = μ 18 := rem_cell _ _ (by omega) hp
  have e14 : rem μ 14 = μ 14 := rem_cell _ _ (by omega) hp
  refine J.aload_n hG dX6_changes_0 rfl rfl ?_
  refine J.getR hG ciX6 rfl 1 1 rfl (Nat.le_of_ble_eq_true rfl) rfl fl_X6_19 dX6_changes_1 ?_
  refine J.iload_n hG dX6_changes_4 rfl rfl ?_
  refine J.callV hG (X1_hasLife _ _) ok_X1_hasLife ml_X6_118 rfl rfl rfl rfl (Nat.le_of_ble_eq_true rfl) ⟨Nat.le_of_ble_eq_true rfl, Nat.le_of_ble_eq_true rfl⟩ dX6_changes_5 rfl (fun r1 μ1 hp1 => ?_)
  obtain ⟨rfl, rfl⟩ := hp1
  refine J.ifb_eq hG 33 dX6_changes_8 rfl (fun h8 => ?_) (fun h8 => ?_)
  · refine J.iconst hG dX6_changes_33 (by decide) ?_
    refine J.iret hG dX6_changes_34 ?_
    rw [hX]; dsimp only
    rw [if_pos (by omega)]
    exact ⟨rfl, rfl⟩
  · refine J.aload_n hG dX6_changes_11 rfl rfl ?_
    refine J.getR hG ciX6 rfl 1 1 rfl (Nat.le_of_ble_eq_true rfl) rfl fl_X6_19 dX6_changes_12 ?_
    refine J.iload_n hG dX6_changes_15 rfl rfl ?_
    refine J.callV hG (X1_hasScale _ _) ok_X1_hasScale ml_X6_106 rfl rfl rfl rfl (Nat.le_of_ble_eq_true rfl) ⟨Nat.le_of_ble_eq_true rfl, Nat.le_of_ble_eq_true rfl⟩ dX6_changes_16 rfl (fun r1 μ1 hp1 => ?_)
    obtain ⟨rfl, rfl⟩ := hp1
    refine J.ifb_eq hG 33 dX6_changes_19 rfl (fun h19 => ?_) (fun h19 => ?_)
    · refine J.iconst hG dX6_changes_33 (by decide) ?_
      refine J.iret hG dX6_changes_34 ?_
      rw [hX]; dsimp only
      rw [if_pos (by omega)]
      exact ⟨rfl, rfl⟩
    · refine J.iload_n hG dX6_changes_22 rfl rfl ?_
      refine J.bipush hG dX6_changes_23 (by decide) (by decide) ?_
      refine J.bipush hG dX6_changes_25 (by decide) (by decide) ?_
      refine J.callS hG (X6_within _ _ _ _) ok_X6_within ml_X6_70 rfl (Nat.le_of_ble_eq_true rfl) ⟨Nat.le_of_ble_eq_true rfl, Nat.le_of_ble_eq_true rfl⟩ dX6_changes_27 rfl (fun r1 μ1 hp1 => ?_)
      obtain ⟨rfl, rfl⟩ := hp1
      refine J.ifb_ne hG 35 dX6_changes_30 rfl (fun h30 => ?_) (fun h30 => ?_)
      · have q5 := h5 s (by omega) (by omega)
        have q6 := h6 l s (by omega) (by omega) (by omega) (by omega)
        refine J.aload_n hG dX6_changes_35 rfl rfl ?_
        refine J.getR hG ciX6 rfl 3 3 rfl (Nat.le_of_ble_eq_true rfl) rfl fl_X6_33 dX6_changes_36 ?_
        refine J.aload_n hG dX6_changes_39 rfl rfl ?_
        refine J.getR hG ciX6 rfl 2 2 rfl (Nat.le_of_ble_eq_true rfl) rfl fl_X6_26 dX6_changes_40 ?_
        refine J.callV hG (X3_remembers _ hp) ok_X3_remembers ml_X6_147 rfl rfl rfl rfl (Nat.le_of_ble_eq_true rfl) ⟨Nat.le_of_ble_eq_true rfl, Nat.le_of_ble_eq_true rfl⟩ dX6_changes_43 rfl (fun r1 μ1 hp1 => ?_)
        obtain ⟨rfl, rfl⟩ := hp1
        refine J.iload_n hG dX6_changes_46 rfl rfl ?_
        refine J.iload_n hG dX6_changes_47 rfl rfl ?_
        refine J.callS hG (X6_cell _ _ _ (by omega) (by omega)) ok_X6_cell ml_X6_124 rfl (Nat.le_of_ble_eq_true rfl) ⟨Nat.le_of_ble_eq_true rfl, Nat.le_of_ble_eq_true rfl⟩ dX6_changes_48 rfl (fun r1 μ1 hp1 => ?_)
        obtain ⟨rfl, rfl⟩ := hp1
        refine J.istore hG dX6_changes_51 (Nat.le_of_ble_eq_true rfl) ?_
        refine J.aload_n hG dX6_changes_53 rfl rfl ?_
        refine J.getR hG ciX6 rfl 2 2 rfl (Nat.le_of_ble_eq_true rfl) rfl fl_X6_26 dX6_changes_54 ?_
        refine J.getR hG ciX2 rfl 2 2 rfl (Nat.le_of_ble_eq_true rfl) rfl fl_X6_121 dX6_changes_57 ?_
        refine J.iload hG dX6_changes_60 rfl ?_
        refine J.aload_n hG dX6_changes_62 rfl rfl ?_
        refine J.getR hG ciX6 rfl 2 2 rfl (Nat.le_of_ble_eq_true rfl) rfl fl_X6_26 dX6_changes_63 ?_
        refine J.getR hG ciX2 rfl 2 2 rfl (Nat.le_of_ble_eq_true rfl) rfl fl_X6_121 dX6_changes_66 ?_
        refine J.iload hG dX6_changes_69 rfl ?_
        refine J.iald hG rfl (by omega) (by omega) dX6_changes_71 ?_
        refine J.iload_n hG dX6_changes_72 rfl rfl ?_
        refine J.aload_n hG dX6_changes_73 rfl rfl ?_
        refine J.getR hG ciX6 rfl 1 1 rfl (Nat.le_of_ble_eq_true rfl) rfl fl_X6_19 dX6_changes_74 ?_
        refine J.getR hG ciX1 rfl 4 4 rfl (Nat.le_of_ble_eq_true rfl) rfl fl_X6_112 dX6_changes_77 ?_
        refine J.iload_n hG dX6_changes_80 rfl rfl ?_
        refine J.iald hG rfl (by omega) (by omega) dX6_changes_81 ?_
        refine J.callS hG (X6_moved _ _ _ _ (by rw [e18]; omega) (by rw [e14]; omega)) ok_X6_moved ml_X6_153 rfl (Nat.le_of_ble_eq_true rfl) ⟨Nat.le_of_ble_eq_true rfl, Nat.le_of_ble_eq_true rfl⟩ dX6_changes_82 rfl (fun r1 μ1 hp1 => ?_)
        obtain ⟨rfl, rfl⟩ := hp1
        refine J.iast hG rfl (by omega) (by omega) dX6_changes_85 ?_
        refine J.aload_n hG dX6_changes_86 rfl rfl ?_
        refine J.getR hG ciX6 rfl 2 2 rfl (Nat.le_of_ble_eq_true rfl) rfl fl_X6_26 dX6_changes_87 ?_
        refine J.getR hG ciX2 rfl 2 2 rfl (Nat.le_of_ble_eq_true rfl) rfl fl_X6_121 dX6_changes_90 ?_
        refine J.iload hG dX6_changes_93 rfl ?_
        refine J.iald hG rfl (by omega) (by omega) dX6_changes_95 ?_
        refine J.iret hG dX6_changes_96 ?_
        rw [hX]; dsimp only
        rw [if_neg (by omega), up_self, e18, e14]
        exact ⟨rfl, rfl⟩
      · refine J.iconst hG dX6_changes_33 (by decide) ?_
        refine J.iret hG dX6_changes_34 ?_
        rw [hX]; dsimp only
        rw [if_pos (by omega)]
        exact ⟨rfl, rfl⟩


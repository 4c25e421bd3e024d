/-! orders of changes: which rows of figures are orders, and how the next one is found -/
def dgs (n : Nat) : Nat → Nat → List Int
  | 0, _ => []
  | k + 1, w => dgs n k (w / n) ++ [((w % n : Nat) : Int)]
def metA (n : Nat) : Nat → Nat → Nat → Nat
  | 0, _, a => a
  | k + 1, w, a => metA n k (w / n) (a ||| 2 ^ (w % n))
def wantd (n : Nat) (wo : Int) : Nat := if wo = -9 then 2 ^ n - 1 else 2 ^ n - 1 - 2 ^ wo.toNat
def pcn (n : Nat) (wo : Int) : Nat := if wo = -9 then n else n - 1
def perms (n : Nat) (wo : Int) : List (List Int) := ((List.range (n ^ pcn n wo)).filter (fun w => metA n (pcn n wo) w 0 == wantd n wo)).map (dgs n (pcn n wo))
def lrs (f : Int → Int) : Nat → Int
  | 0 => -1
  | k + 1 => if f k < f (k + 1) then k else lrs f k
def las (f : Int → Int) (r : Int) : Nat → Int
  | 0 => r
  | k + 1 => if f r < f (r + (k + 1)) then r + (k + 1) else las f r k
def sw (f : Int → Int) (a b : Int) : Int → Int := fun z => if z = b then f a else if z = a then f b else f z
def rvs : Nat → Int → Int → (Int → Int) → (Int → Int)
  | 0, _, _, f => f
  | k + 1, a, b, f => if a < b then rvs k (a + 1) (b - 1) (sw f a b) else f
def nxF (f : Int → Int) (m : Int) : Option (Int → Int) := if lrs f (m - 1).toNat < 0 then none else some (rvs 3 (lrs f (m - 1).toNat + 1) (m - 1) (sw f (lrs f (m - 1).toNat) (las f (lrs f (m - 1).toNat) (m - 1 - lrs f (m - 1).toNat).toNat)))
def fOf (l : List Int) : Int → Int := fun z => l.getD z.toNat 0
def toL (m : Nat) (f : Int → Int) : List Int := (List.range m).map (fun (i : Nat) => f i)
def chn : List (List Int) → Bool
  | [] => true
  | [p] => (nxF (fOf p) p.length).isNone
  | p :: q :: r => ((nxF (fOf p) p.length).map (toL p.length) == some q) && chn (q :: r)
def stO (wo j : Int) : Int := if 0 ≤ wo ∧ wo ≤ j then j + 1 else j
def chkP (n : Nat) (wo : Int) : Bool := (perms n wo).head? == some (toL (pcn n wo) (stO wo)) && (perms n wo).length ≤ 120 && chn (perms n wo) && (perms n wo).all (fun p => p.length == pcn n wo && p.all (fun z => 0 ≤ z && z < n))
theorem chk0 : chkP 0 (-9) = true := by decide +kernel
theorem chk1 : chkP 1 (-9) = true ∧ chkP 1 0 = true := by decide +kernel
theorem chk2 : chkP 2 (-9) = true ∧ chkP 2 0 = true ∧ chkP 2 1 = true := by decide +kernel
theorem chk3 : chkP 3 (-9) = true ∧ chkP 3 0 = true ∧ chkP 3 1 = true ∧ chkP 3 2 = true := by decide +kernel
theorem chk4 : chkP 4 (-9) = true ∧ chkP 4 0 = true ∧ chkP 4 1 = true ∧ chkP 4 2 = true ∧ chkP 4 3 = true := by decide +kernel
theorem chk5 : chkP 5 (-9) = true ∧ chkP 5 0 = true ∧ chkP 5 1 = true ∧ chkP 5 2 = true ∧ chkP 5 3 = true ∧ chkP 5 4 = true := by decide +kernel
theorem chk_all (n : Nat) (wo : Int) (hn : n ≤ 5) (hw : wo = -9 ∨ (0 ≤ wo ∧ wo < n)) : chkP n wo = true := by
  have a1 := chk1
  have a2 := chk2
  have a3 := chk3
  have a4 := chk4
  have a5 := chk5
  rcases (show n = 0 ∨ n = 1 ∨ n = 2 ∨ n = 3 ∨ n = 4 ∨ n = 5 by omega) with rfl | rfl | rfl | rfl | rfl | rfl
  · rcases hw with rfl | h
    · exact chk0
    · omega
  · rcases (show wo = -9 ∨ wo = 0 by omega) with rfl | rfl <;> simp only [a1]
  · rcases (show wo = -9 ∨ wo = 0 ∨ wo = 1 by omega) with rfl | rfl | rfl <;> simp only [a2]
  · rcases (show wo = -9 ∨ wo = 0 ∨ wo = 1 ∨ wo = 2 by omega) with rfl | rfl | rfl | rfl <;> simp only [a3]
  · rcases (show wo = -9 ∨ wo = 0 ∨ wo = 1 ∨ wo = 2 ∨ wo = 3 by omega) with rfl | rfl | rfl | rfl | rfl <;> simp only [a4]
  · rcases (show wo = -9 ∨ wo = 0 ∨ wo = 1 ∨ wo = 2 ∨ wo = 3 ∨ wo = 4 by omega) with rfl | rfl | rfl | rfl | rfl | rfl <;> simp only [a5]
theorem lrs_bd (f : Int → Int) : ∀ (k : Nat), -1 ≤ lrs f k ∧ lrs f k < k
  | 0 => by simp [lrs]
  | k + 1 => by
    have := lrs_bd f k
    unfold lrs
    split <;> omega
theorem las_bd (f : Int → Int) (r : Int) : ∀ (k : Nat), r ≤ las f r k ∧ las f r k ≤ r + k
  | 0 => by simp [las]
  | k + 1 => by
    have := las_bd f r k
    unfold las
    split <;> omega
theorem lrs_congr {f g : Int → Int} : ∀ (k : Nat), (∀ z : Int, 0 ≤ z → z ≤ (k : Int) → f z = g z) → lrs f k = lrs g k
  | 0, _ => rfl
  | k + 1, h => by
    rw [lrs, lrs, h k (by omega) (by omega), h (k + 1) (by omega) (by omega), lrs_congr k (fun z a b => h z a (by omega))]
theorem las_congr {f g : Int → Int} (r : Int) (hr : 0 ≤ r) : ∀ (k : Nat), (∀ z : Int, 0 ≤ z → z ≤ r + (k : Int) → f z = g z) → las f r k = las g r k
  | 0, _ => rfl
  | k + 1, h => by
    rw [las, las, h r hr (by omega), h (r + (k + 1)) (by omega) (by omega), las_congr r hr k (fun z a b => h z a (by omega))]
theorem sw_agr {m : Int} {f g : Int → Int} (h : Agr m f g) {a b : Int} (ha : 0 ≤ a ∧ a < m) (hb : 0 ≤ b ∧ b < m) : Agr m (sw f a b) (sw g a b) := by
  intro z h0 h1
  unfold sw
  rw [h a ha.1 ha.2, h b hb.1 hb.2, h z h0 h1]
theorem rvs_agr {m : Int} : ∀ (k : Nat) (a b : Int) (f g : Int → Int), Agr m f g → 0 ≤ a → b < m → Agr m (rvs k a b f) (rvs k a b g)
  | 0, _, _, _, _, h, _, _ => h
  | k + 1, a, b, f, g, h, h0, h1 => by
    unfold rvs
    split
    · exact rvs_agr k _ _ _ _ (sw_agr h (by omega) (by omega)) (by omega) (by omega)
    · exact h
theorem nxF_agr {m : Int} (hm : 0 ≤ m) {f g : Int → Int} (h : Agr m f g) : (nxF f m = none ∧ nxF g m = none) ∨ ∃ f' g', nxF f m = some f' ∧ nxF g m = some g' ∧ Agr m f' g' := by
  have e : lrs f (m - 1).toNat = lrs g (m - 1).toNat := by
    rcases Int.le_total m 0 with q | q
    · have : (m - 1).toNat = 0 := by omega
      rw [this]
      rfl
    · rcases (show m = 0 ∨ 1 ≤ m by omega) with rfl | hm1
      · rfl
      · exact lrs_congr _ (fun z a b => h z a (by omega))
  have hb := lrs_bd f (m - 1).toNat
  unfold nxF
  rw [← e]
  split
  · exact Or.inl ⟨rfl, rfl⟩
  · have hl := las_bd f (lrs f (m - 1).toNat) (m - 1 - lrs f (m - 1).toNat).toNat
    have el : las f (lrs f (m - 1).toNat) (m - 1 - lrs f (m - 1).toNat).toNat = las g (lrs f (m - 1).toNat) (m - 1 - lrs f (m - 1).toNat).toNat := las_congr _ (by omega) _ (fun z a b => h z a (by omega))
    refine Or.inr ⟨_, _, rfl, rfl, ?_⟩
    rw [← el]
    exact rvs_agr _ _ _ _ _ (sw_agr h (by omega) (by omega)) (by omega) (by omega)
theorem fOf_toL (m : Nat) (f : Int → Int) : Agr m (fOf (toL m f)) f := by
  intro z a b
  unfold fOf toL
  rw [List.getD_eq_getElem?_getD, List.getElem?_map, List.getElem?_range (by omega)]
  show f ((z.toNat : Nat) : Int) = f z
  rw [Int.toNat_of_nonneg a]
def XF3 (μ ν : Mem) : Prop := ∀ c : Nat, (c < 68 ∨ 70 < c) → ν c = μ c
theorem XF3_up {μ ν : Mem} (h : XF3 μ ν) {c : Nat} (hc : 68 ≤ c ∧ c ≤ 70) (j x : Int) : XF3 μ (up ν c j x) := fun d hd => by rw [up_cell _ _ _ (by omega)]; exact h d hd
theorem XF3_XB {μ ν : Mem} (hB : XB μ) (h : XF3 μ ν) : XB ν := XB_of hB (h 13 (by omega)) (h 14 (by omega)) (h 15 (by omega)) (h 18 (by omega))
theorem XF3_tr {μ ν ν1 : Mem} (h : XF3 μ ν) (g : XF3 ν ν1) : XF3 μ ν1 := fun c hc => by rw [g c hc, h c hc]
theorem XF3_fr {c0 : Nat} (hc : 68 ≤ c0 ∧ c0 ≤ 70) {μ ν : Mem} (h : XFr c0 μ ν) : XF3 μ ν := fun d hd => h d (by omega)

set_option maxRecDepth 100000 in
set_option maxHeartbeats 4000000 in
theorem X0_swaps (μ : Mem) (a b : Int) (ha : 0 ≤ a ∧ a < 5) (hb : 0 ≤ b ∧ b < 5) : CT TX md_X0_swaps [aR 65, aI a, aI b] μ (fun rv μ1 => rv = none ∧ XFr 68 μ μ1 ∧ μ1 68 = sw (μ 68) a b) := by
  refine CT.of (Nat.le_of_ble_eq_true rfl) (by decide) rfl (Nat.le_of_ble_eq_true rfl) (fun X hG hX => ?_)
  have hG : G TX X RX0 cX0_swaps 4 0 0 none := hG
  show J TX X 4 0 [some (aR 65), some (aI a), some (aI b), none] [] μ
  refine J.aload_n hG dX0_swaps_0 rfl rfl ?_
  refine J.getR hG ciX0 rfl 3 3 rfl (Nat.le_of_ble_eq_true rfl) rfl fl_X0_22 dX0_swaps_1 ?_
  refine J.iload_n hG dX0_swaps_4 rfl rfl ?_
  refine J.iald hG rfl (by omega) (by omega) dX0_swaps_5 ?_
  refine J.istore_n hG dX0_swaps_6 rfl (Nat.le_of_ble_eq_true rfl) ?_
  refine J.aload_n hG dX0_swaps_7 rfl rfl ?_
  refine J.getR hG ciX0 rfl 3 3 rfl (Nat.le_of_ble_eq_true rfl) rfl fl_X0_22 dX0_swaps_8 ?_
  refine J.iload_n hG dX0_swaps_11 rfl rfl ?_
  refine J.aload_n hG dX0_swaps_12 rfl rfl ?_
  refine J.getR hG ciX0 rfl 3 3 rfl (Nat.le_of_ble_eq_true rfl) rfl fl_X0_22 dX0_swaps_13 ?_
  refine J.iload_n hG dX0_swaps_16 rfl rfl ?_
  refine J.iald hG rfl (by omega) (by omega) dX0_swaps_17 ?_
  refine J.iast hG rfl (by omega) (by omega) dX0_swaps_18 ?_
  refine J.aload_n hG dX0_swaps_19 rfl rfl ?_
  refine J.getR hG ciX0 rfl 3 3 rfl (Nat.le_of_ble_eq_true rfl) rfl fl_X0_22 dX0_swaps_20 ?_
  refine J.iload_n hG dX0_swaps_23 rfl rfl ?_
  refine J.iload_n hG dX0_swaps_24 rfl rfl ?_
  refine J.iast hG rfl (by omega) (by omega) dX0_swaps_25 ?_
  refine J.vret hG dX0_swaps_26 ?_
  rw [hX]; dsimp only
  refine ⟨rfl, XFr_up (XFr_up (fun _ _ => rfl) _ _) _ _, ?_⟩
  funext z
  unfold sw
  by_cases h1 : z = b
  · rw [h1, up_self, if_pos rfl]
  · rw [up_ne _ (fun w => h1 w.2), if_neg h1]
    by_cases h2 : z = a
    · rw [h2, up_self, if_pos rfl]
    · rw [up_ne _ (fun w => h2 w.2), if_neg h2]

set_option maxRecDepth 100000 in
set_option maxHeartbeats 4000000 in
theorem X0_lastRising (μ : Mem) (m : Int) (hm : 0 ≤ m ∧ m ≤ 5) : CT TX md_X0_lastRising [aR 65, aI m] μ (fun rv μ1 => rv = some (aI (lrs (μ 68) (m - 1).toNat)) ∧ μ = μ1) := by
  refine CT.of (Nat.le_of_ble_eq_true rfl) (by decide) rfl (Nat.le_of_ble_eq_true rfl) (fun X hG hX => ?_)
  have hG : G TX X RX0 cX0_lastRising 3 0 0 (some .int) := hG
  show J TX X 3 0 [some (aR 65), some (aI m), none] [] μ
  by_cases hm0 : m = 0
  · subst hm0
    refine J.iload_n hG dX0_lastRising_0 rfl rfl ?_
    refine J.iconst hG dX0_lastRising_1 (by decide) ?_
    refine J.isub hG dX0_lastRising_2 (fun _ _ => (by omega)) ?_
    refine J.istore_n hG dX0_lastRising_3 rfl (Nat.le_of_ble_eq_true rfl) ?_
    refine J.iload_n hG dX0_lastRising_4 rfl rfl ?_
    refine J.if_lt hG 33 dX0_lastRising_5 rfl (fun h5 => ?_) (fun h5 => absurd h5 (by omega))
    refine J.iconst hG dX0_lastRising_33 (by decide) ?_
    refine J.iret hG dX0_lastRising_34 ?_
    rw [hX]; dsimp only
    exact ⟨rfl, rfl⟩
  have lp : ∀ (k : Nat) (i : Int), i + 1 = k → k ≤ 4 → lrs (μ 68) k = lrs (μ 68) (m - 1).toNat → J TX X 3 4 [some (aR 65), some (aI m), some (aI i)] [] μ := by
    intro k
    induction k with
    | zero =>
      intro i i0 i1 i2
      refine J.iload_n hG dX0_lastRising_4 rfl rfl ?_
      refine J.if_lt hG 33 dX0_lastRising_5 rfl (fun h5 => ?_) (fun h5 => absurd h5 (by omega))
      refine J.iconst hG dX0_lastRising_33 (by decide) ?_
      refine J.iret hG dX0_lastRising_34 ?_
      rw [hX]; dsimp only
      exact ⟨by rw [← i2, lrs], rfl⟩
    | succ k ih =>
      intro i i0 i1 i2
      have hi : (k : Int) = i := by omega
      rw [lrs, hi] at i2
      refine J.iload_n hG dX0_lastRising_4 rfl rfl ?_
      refine J.if_lt hG 33 dX0_lastRising_5 rfl (fun h5 => absurd h5 (by omega)) (fun h5 => ?_)
      refine J.aload_n hG dX0_lastRising_8 rfl rfl ?_
      refine J.getR hG ciX0 rfl 3 3 rfl (Nat.le_of_ble_eq_true rfl) rfl fl_X0_22 dX0_lastRising_9 ?_
      refine J.iload_n hG dX0_lastRising_12 rfl rfl ?_
      refine J.iald hG rfl (by omega) (by omega) dX0_lastRising_13 ?_
      refine J.aload_n hG dX0_lastRising_14 rfl rfl ?_
      refine J.getR hG ciX0 rfl 3 3 rfl (Nat.le_of_ble_eq_true rfl) rfl fl_X0_22 dX0_lastRising_15 ?_
      refine J.iload_n hG dX0_lastRising_18 rfl rfl ?_
      refine J.iconst hG dX0_lastRising_19 (by decide) ?_
      refine J.iadd hG dX0_lastRising_20 (fun _ _ => (by omega)) ?_
      refine J.iald hG rfl (by omega) (by omega) dX0_lastRising_21 ?_
      refine J.icmp_ge hG 27 dX0_lastRising_22 rfl (fun h22 => ?_) (fun h22 => ?_)
      · refine J.iinc hG dX0_lastRising_27 (Nat.le_of_ble_eq_true rfl) rfl (fun _ => (by omega)) ?_
        refine J.goto hG 4 dX0_lastRising_30 rfl ?_
        rw [if_neg (by omega)] at i2
        exact ih (i + -1) (by omega) (by omega) i2
      · refine J.iload_n hG dX0_lastRising_25 rfl rfl ?_
        refine J.iret hG dX0_lastRising_26 ?_
        rw [hX]; dsimp only
        rw [if_pos (by omega)] at i2
        exact ⟨by rw [← i2], rfl⟩
  refine J.iload_n hG dX0_lastRising_0 rfl rfl ?_
  refine J.iconst hG dX0_lastRising_1 (by decide) ?_
  refine J.isub hG dX0_lastRising_2 (fun _ _ => (by omega)) ?_
  refine J.istore_n hG dX0_lastRising_3 rfl (Nat.le_of_ble_eq_true rfl) ?_
  exact lp (m - 1).toNat _ (by omega) (by omega) rfl

set_option maxRecDepth 100000 in
set_option maxHeartbeats 4000000 in
theorem X0_lastAbove (μ : Mem) (r m : Int) (hr : 0 ≤ r ∧ r < m) (hm : m ≤ 5) : CT TX md_X0_lastAbove [aR 65, aI r, aI m] μ (fun rv μ1 => rv = some (aI (las (μ 68) r (m - 1 - r).toNat)) ∧ μ = μ1) := by
  refine CT.of (Nat.le_of_ble_eq_true rfl) (by decide) rfl (Nat.le_of_ble_eq_true rfl) (fun X hG hX => ?_)
  have hG : G TX X RX0 cX0_lastAbove 4 0 0 (some .int) := hG
  show J TX X 4 0 [some (aR 65), some (aI r), some (aI m), none] [] μ
  have lp : ∀ (k : Nat) (i : Int), i = r + k → i < 5 → las (μ 68) r k = las (μ 68) r (m - 1 - r).toNat → J TX X 4 4 [some (aR 65), some (aI r), some (aI m), some (aI i)] [] μ := by
    intro k
    induction k with
    | zero =>
      intro i i0 i1 i2
      refine J.iload_n hG dX0_lastAbove_4 rfl rfl ?_
      refine J.iload_n hG dX0_lastAbove_5 rfl rfl ?_
      refine J.icmp_le hG 32 dX0_lastAbove_6 rfl (fun h6 => ?_) (fun h6 => absurd h6 (by omega))
      refine J.iload_n hG dX0_lastAbove_32 rfl rfl ?_
      refine J.iret hG dX0_lastAbove_33 ?_
      rw [hX]; dsimp only
      exact ⟨by rw [← i2, las], rfl⟩
    | succ k ih =>
      intro i i0 i1 i2
      have hi : r + ((k : Int) + 1) = i := by omega
      rw [las, hi] at i2
      refine J.iload_n hG dX0_lastAbove_4 rfl rfl ?_
      refine J.iload_n hG dX0_lastAbove_5 rfl rfl ?_
      refine J.icmp_le hG 32 dX0_lastAbove_6 rfl (fun h6 => absurd h6 (by omega)) (fun h6 => ?_)
      refine J.aload_n hG dX0_lastAbove_9 rfl rfl ?_
      refine J.getR hG ciX0 rfl 3 3 rfl (Nat.le_of_ble_eq_true rfl) rfl fl_X0_22 dX0_lastAbove_10 ?_
      refine J.iload_n hG dX0_lastAbove_13 rfl rfl ?_
      refine J.iald hG rfl (by omega) (by omega) dX0_lastAbove_14 ?_
      refine J.aload_n hG dX0_lastAbove_15 rfl rfl ?_
      refine J.getR hG ciX0 rfl 3 3 rfl (Nat.le_of_ble_eq_true rfl) rfl fl_X0_22 dX0_lastAbove_16 ?_
      refine J.iload_n hG dX0_lastAbove_19 rfl rfl ?_
      refine J.iald hG rfl (by omega) (by omega) dX0_lastAbove_20 ?_
      refine J.icmp_le hG 26 dX0_lastAbove_21 rfl (fun h21 => ?_) (fun h21 => ?_)
      · refine J.iinc hG dX0_lastAbove_26 (Nat.le_of_ble_eq_true rfl) rfl (fun _ => (by omega)) ?_
        refine J.goto hG 4 dX0_lastAbove_29 rfl ?_
        rw [if_neg (by omega)] at i2
        exact ih (i + -1) (by omega) (by omega) i2
      · refine J.iload_n hG dX0_lastAbove_24 rfl rfl ?_
        refine J.iret hG dX0_lastAbove_25 ?_
        rw [hX]; dsimp only
        rw [if_pos (by omega)] at i2
        exact ⟨by rw [← i2], rfl⟩
  refine J.iload_n hG dX0_lastAbove_0 rfl rfl ?_
  refine J.iconst hG dX0_lastAbove_1 (by decide) ?_
  refine J.isub hG dX0_lastAbove_2 (fun _ _ => (by omega)) ?_
  refine J.istore_n hG dX0_lastAbove_3 rfl (Nat.le_of_ble_eq_true rfl) ?_
  exact lp (m - 1 - r).toNat _ (by omega) (by omega) rfl

set_option maxRecDepth 100000 in
set_option maxHeartbeats 4000000 in
theorem X0_goesToNextOrder (μ : Mem) (m : Int) (hm : 0 ≤ m ∧ m ≤ 5) : CT TX md_X0_goesToNextOrder [aR 65, aI m] μ (fun rv μ1 => XFr 68 μ μ1 ∧ rv = some (aI (if (nxF (μ 68) m).isSome = true then 1 else 0)) ∧ ∀ f, nxF (μ 68) m = some f → μ1 68 = f) := by
  refine CT.of (Nat.le_of_ble_eq_true rfl) (by decide) rfl (Nat.le_of_ble_eq_true rfl) (fun X hG hX => ?_)
  have hG : G TX X RX0 cX0_goesToNextOrder 5 1 23 (some .boolean) := hG
  show J TX X 5 0 [some (aR 65), some (aI m), none, none, none] [] μ
  have lb := lrs_bd (μ 68) (m - 1).toNat
  obtain ⟨r, hr⟩ : ∃ r, r = lrs (μ 68) (m - 1).toNat := ⟨_, rfl⟩
  rw [← hr] at lb
  have lp : ∀ (k : Nat) (a b : Int) (ν : Mem), b - a ≤ 2 * k → 0 ≤ a → b < m → a ≤ 5 → XFr 68 μ ν → (some (rvs k a b (ν 68)) = nxF (μ 68) m) → J TX X 5 32 [some (aR 65), some (aI m), some (aI r), some (aI a), some (aI b)] [] ν := by
    intro k
    induction k with
    | zero =>
      intro a b ν i0 i1 i2 i5 hF i3
      refine J.iload_n hG dX0_goesToNextOrder_32 rfl rfl ?_
      refine J.iload hG dX0_goesToNextOrder_33 rfl ?_
      refine J.icmp_ge hG 54 dX0_goesToNextOrder_35 rfl (fun h35 => ?_) (fun h35 => absurd h35 (by omega))
      refine J.iconst hG dX0_goesToNextOrder_54 (by decide) ?_
      refine J.zret hG (by first | exact Or.inl rfl | exact Or.inr rfl | assumption | (split <;> first | exact Or.inl rfl | exact Or.inr rfl)) dX0_goesToNextOrder_55 ?_
      rw [hX]; dsimp only
      exact ⟨hF, by rw [← i3]; rfl, fun f h => by rw [← i3] at h; cases h; rfl⟩
    | succ k ih =>
      intro a b ν i0 i1 i2 i5 hF i3
      rw [rvs] at i3
      refine J.iload_n hG dX0_goesToNextOrder_32 rfl rfl ?_
      refine J.iload hG dX0_goesToNextOrder_33 rfl ?_
      refine J.icmp_ge hG 54 dX0_goesToNextOrder_35 rfl (fun h35 => ?_) (fun h35 => ?_)
      · refine J.iconst hG dX0_goesToNextOrder_54 (by decide) ?_
        refine J.zret hG (by first | exact Or.inl rfl | exact Or.inr rfl | assumption | (split <;> first | exact Or.inl rfl | exact Or.inr rfl)) dX0_goesToNextOrder_55 ?_
        rw [hX]; dsimp only
        rw [if_neg (by omega)] at i3
        exact ⟨hF, by rw [← i3]; rfl, fun f h => by rw [← i3] at h; cases h; rfl⟩
      · refine J.aload_n hG dX0_goesToNextOrder_38 rfl rfl ?_
        refine J.iload_n hG dX0_goesToNextOrder_39 rfl rfl ?_
        refine J.iload hG dX0_goesToNextOrder_40 rfl ?_
        refine J.callV hG (X0_swaps _ _ _ (by omega) (by omega)) ok_X0_swaps ml_X0_45 rfl rfl rfl rfl (Nat.le_of_ble_eq_true rfl) ⟨Nat.le_of_ble_eq_true rfl, Nat.le_of_ble_eq_true rfl⟩ dX0_goesToNextOrder_42 rfl (fun r1 μ1 hp1 => ?_)
        obtain ⟨rfl, hp2, hp3⟩ := hp1
        refine J.iinc hG dX0_goesToNextOrder_45 (Nat.le_of_ble_eq_true rfl) rfl (fun _ => (by omega)) ?_
        refine J.iinc hG dX0_goesToNextOrder_48 (Nat.le_of_ble_eq_true rfl) rfl (fun _ => (by omega)) ?_
        refine J.goto hG 32 dX0_goesToNextOrder_51 rfl ?_
        rw [if_pos (by omega)] at i3
        exact ih (a + 1) (b + -1) _ (by omega) (by omega) (by omega) (by omega) (XFr_tr hF hp2) (by rw [hp3]; exact i3)
  refine J.aload_n hG dX0_goesToNextOrder_0 rfl rfl ?_
  refine J.iload_n hG dX0_goesToNextOrder_1 rfl rfl ?_
  refine J.callV hG (X0_lastRising _ _ hm) ok_X0_lastRising ml_X0_37 rfl rfl rfl rfl (Nat.le_of_ble_eq_true rfl) ⟨Nat.le_of_ble_eq_true rfl, Nat.le_of_ble_eq_true rfl⟩ dX0_goesToNextOrder_2 rfl (fun r1 μ1 hp1 => ?_)
  obtain ⟨rfl, rfl⟩ := hp1
  refine J.istore_n hG dX0_goesToNextOrder_5 rfl (Nat.le_of_ble_eq_true rfl) ?_
  rw [← hr]
  refine J.iload_n hG dX0_goesToNextOrder_6 rfl rfl ?_
  refine J.if_ge hG 12 dX0_goesToNextOrder_7 rfl (fun h7 => ?_) (fun h7 => ?_)
  · refine J.aload_n hG dX0_goesToNextOrder_12 rfl rfl ?_
    refine J.iload_n hG dX0_goesToNextOrder_13 rfl rfl ?_
    refine J.aload_n hG dX0_goesToNextOrder_14 rfl rfl ?_
    refine J.iload_n hG dX0_goesToNextOrder_15 rfl rfl ?_
    refine J.iload_n hG dX0_goesToNextOrder_16 rfl rfl ?_
    refine J.callV hG (X0_lastAbove _ _ _ (by omega) (by omega)) ok_X0_lastAbove ml_X0_41 rfl rfl rfl rfl (Nat.le_of_ble_eq_true rfl) ⟨Nat.le_of_ble_eq_true rfl, Nat.le_of_ble_eq_true rfl⟩ dX0_goesToNextOrder_17 rfl (fun r1 μ1 hp1 => ?_)
    obtain ⟨rfl, rfl⟩ := hp1
    have lb2 := las_bd (μ 68) r (m - 1 - r).toNat
    refine J.callV hG (X0_swaps _ _ _ (by omega) (by omega)) ok_X0_swaps ml_X0_45 rfl rfl rfl rfl (Nat.le_of_ble_eq_true rfl) ⟨Nat.le_of_ble_eq_true rfl, Nat.le_of_ble_eq_true rfl⟩ dX0_goesToNextOrder_20 rfl (fun r1 μ1 hp1 => ?_)
    obtain ⟨rfl, hp2, hp3⟩ := hp1
    refine J.iload_n hG dX0_goesToNextOrder_23 rfl rfl ?_
    refine J.iconst hG dX0_goesToNextOrder_24 (by decide) ?_
    refine J.iadd hG dX0_goesToNextOrder_25 (fun _ _ => (by omega)) ?_
    refine J.istore_n hG dX0_goesToNextOrder_26 rfl (Nat.le_of_ble_eq_true rfl) ?_
    refine J.iload_n hG dX0_goesToNextOrder_27 rfl rfl ?_
    refine J.iconst hG dX0_goesToNextOrder_28 (by decide) ?_
    refine J.isub hG dX0_goesToNextOrder_29 (fun _ _ => (by omega)) ?_
    refine J.istore hG dX0_goesToNextOrder_30 (Nat.le_of_ble_eq_true rfl) ?_
    exact lp 3 _ _ _ (by omega) (by omega) (by omega) (by omega) hp2 (by rw [hp3]; unfold nxF; rw [← hr, if_neg (by omega)])
  · refine J.iconst hG dX0_goesToNextOrder_10 (by decide) ?_
    refine J.zret hG (by first | exact Or.inl rfl | exact Or.inr rfl | assumption | (split <;> first | exact Or.inl rfl | exact Or.inr rfl)) dX0_goesToNextOrder_11 ?_
    rw [hX]; dsimp only
    have hn : nxF (μ 68) m = none := by unfold nxF; rw [if_pos (by omega)]
    exact ⟨fun _ _ => rfl, by rw [hn]; rfl, fun f h => by rw [hn] at h; cases h⟩

set_option maxRecDepth 100000 in
set_option maxHeartbeats 4000000 in
theorem X0_keepsAsFirst (μ : Mem)  : CT TX md_X0_keepsAsFirst [aR 65] μ (fun rv μ1 => rv = none ∧ XFr 69 μ μ1 ∧ ∀ j : Int, 0 ≤ j → j < 5 → μ1 69 j = μ 68 j) := by
  refine CT.of (Nat.le_of_ble_eq_true rfl) (by decide) rfl (Nat.le_of_ble_eq_true rfl) (fun X hG hX => ?_)
  have hG : G TX X RX0 cX0_keepsAsFirst 1 1 30 none := hG
  show J TX X 1 0 [some (aR 65)] [] μ
  refine J.aload_n hG dX0_keepsAsFirst_0 rfl rfl ?_
  refine J.getR hG ciX0 rfl 3 3 rfl (Nat.le_of_ble_eq_true rfl) rfl fl_X0_22 dX0_keepsAsFirst_1 ?_
  refine J.iconst hG dX0_keepsAsFirst_4 (by decide) ?_
  refine J.aload_n hG dX0_keepsAsFirst_5 rfl rfl ?_
  refine J.getR hG ciX0 rfl 4 4 rfl (Nat.le_of_ble_eq_true rfl) rfl fl_X0_25 dX0_keepsAsFirst_6 ?_
  refine J.iconst hG dX0_keepsAsFirst_9 (by decide) ?_
  refine J.iconst hG dX0_keepsAsFirst_10 (by decide) ?_
  refine J.copy hG rfl rfl (by omega) (by omega) (by omega) ml_X0_31 (Nat.le_of_ble_eq_true rfl) (Nat.le_of_ble_eq_true rfl) dX0_keepsAsFirst_11 ?_
  refine J.vret hG dX0_keepsAsFirst_14 ?_
  rw [hX]; dsimp only
  exact ⟨rfl, fun c hc => cpy_ne _ _ hc, fun j a b => by unfold cpy; rw [if_pos ⟨rfl, a, b⟩]⟩

set_option maxRecDepth 100000 in
set_option maxHeartbeats 4000000 in
theorem X0_startsOrders (μ : Mem) (wo : Int) (hn : 0 ≤ μ 65 0 ∧ μ 65 0 ≤ 5) (hw : wo = -9 ∨ (0 ≤ wo ∧ wo < μ 65 0)) : CT TX md_X0_startsOrders [aR 65, aI wo] μ (fun rv μ1 => rv = some (aI (pcn (μ 65 0).toNat wo)) ∧ XFr 68 μ μ1 ∧ ∀ j : Int, 0 ≤ j → j < (pcn (μ 65 0).toNat wo : Nat) → μ1 68 j = stO wo j) := by
  refine CT.of (Nat.le_of_ble_eq_true rfl) (by decide) rfl (Nat.le_of_ble_eq_true rfl) (fun X hG hX => ?_)
  have hG : G TX X RX0 cX0_startsOrders 4 0 0 (some .int) := hG
  show J TX X 4 0 [some (aR 65), some (aI wo), none, none] [] μ
  have lp : ∀ (k : Nat) (i : Int) (ν : Mem) (m : Int), 0 ≤ i → i + k = μ 65 0 → (m = if 0 ≤ wo ∧ wo < i then i - 1 else i) → (XFr 68 μ ν) → (∀ j : Int, 0 ≤ j → j < m → ν 68 j = stO wo j) → J TX X 4 4 [some (aR 65), some (aI wo), some (aI m), some (aI i)] [] ν := by
    intro k
    induction k with
    | zero =>
      intro i ν m i0 i1 i2 hF hA
      have e65 : ν 65 0 = μ 65 0 := by rw [hF 65 (by decide)]
      refine J.iload_n hG dX0_startsOrders_4 rfl rfl ?_
      refine J.aload_n hG dX0_startsOrders_5 rfl rfl ?_
      refine J.getI hG ciX0 rfl 0 0 rfl (Nat.le_of_ble_eq_true rfl) rfl fl_X0_9 dX0_startsOrders_6 ?_
      refine J.icmp_ge hG 33 dX0_startsOrders_9 rfl (fun h9 => ?_) (fun h9 => absurd h9 (by omega))
      refine J.iload_n hG dX0_startsOrders_33 rfl rfl ?_
      refine J.iret hG dX0_startsOrders_34 ?_
      rw [hX]; dsimp only
      refine ⟨by congr 2; rw [i2]; unfold pcn; (repeat' split) <;> omega, hF, ?_⟩
      intro j a b
      exact hA j a (by rw [i2]; unfold pcn at b; revert b; (repeat' split) <;> omega)
    | succ k ih =>
      intro i ν m i0 i1 i2 hF hA
      have e65 : ν 65 0 = μ 65 0 := by rw [hF 65 (by decide)]
      have hmi : m = i ∨ m = i - 1 := by rw [i2]; split <;> omega
      have hm0 : 0 ≤ m := by rw [i2]; split <;> omega
      refine J.iload_n hG dX0_startsOrders_4 rfl rfl ?_
      refine J.aload_n hG dX0_startsOrders_5 rfl rfl ?_
      refine J.getI hG ciX0 rfl 0 0 rfl (Nat.le_of_ble_eq_true rfl) rfl fl_X0_9 dX0_startsOrders_6 ?_
      refine J.icmp_ge hG 33 dX0_startsOrders_9 rfl (fun h9 => absurd h9 (by omega)) (fun h9 => ?_)
      refine J.iload_n hG dX0_startsOrders_12 rfl rfl ?_
      refine J.iload_n hG dX0_startsOrders_13 rfl rfl ?_
      refine J.icmp_eq hG 27 dX0_startsOrders_14 rfl (fun h14 => ?_) (fun h14 => ?_)
      · refine J.iinc hG dX0_startsOrders_27 (Nat.le_of_ble_eq_true rfl) rfl (fun _ => (by omega)) ?_
        refine J.goto hG 4 dX0_startsOrders_30 rfl ?_
        exact ih (i + 1) _ m (by omega) (by omega) (by rw [i2]; (repeat' split) <;> omega) hF hA
      · refine J.aload_n hG dX0_startsOrders_17 rfl rfl ?_
        refine J.getR hG ciX0 rfl 3 3 rfl (Nat.le_of_ble_eq_true rfl) rfl fl_X0_22 dX0_startsOrders_18 ?_
        refine J.iload_n hG dX0_startsOrders_21 rfl rfl ?_
        refine J.iload_n hG dX0_startsOrders_22 rfl rfl ?_
        refine J.iast hG rfl (by omega) (by omega) dX0_startsOrders_23 ?_
        refine J.iinc hG dX0_startsOrders_24 (Nat.le_of_ble_eq_true rfl) rfl (fun _ => (by omega)) ?_
        refine J.iinc hG dX0_startsOrders_27 (Nat.le_of_ble_eq_true rfl) rfl (fun _ => (by omega)) ?_
        refine J.goto hG 4 dX0_startsOrders_30 rfl ?_
        refine ih (i + 1) _ (m + 1) (by omega) (by omega) (by rw [i2]; (repeat' split) <;> omega) (XFr_up hF _ _) (fun j a b => ?_)
        by_cases hj : j = m
        · rw [hj, up_self]; unfold stO; rw [i2]; (repeat' split) <;> omega
        · rw [up_ne _ (fun w => hj w.2)]; exact hA j a (by omega)
  refine J.iconst hG dX0_startsOrders_0 (by decide) ?_
  refine J.istore_n hG dX0_startsOrders_1 rfl (Nat.le_of_ble_eq_true rfl) ?_
  refine J.iconst hG dX0_startsOrders_2 (by decide) ?_
  refine J.istore_n hG dX0_startsOrders_3 rfl (Nat.le_of_ble_eq_true rfl) ?_
  exact lp (μ 65 0).toNat 0 μ 0 (Int.le_refl _) (by omega) (by split <;> omega) (fun _ _ => rfl) (fun j a b => absurd b (by omega))


def xClash (μ : Mem) : Int := fc (fun a => fs3 (fun b => if xOp μ a b = -9 then 0 else 3) (μ 13 0 - (a + 1)).toNat (a + 1)) (μ 13 0).toNat 0
def xBJ (μ : Mem) (s : Int) : Int × Int := bj (xEC μ s) (μ 14 s - 1).toNat 2 1 (xEC μ s 1)
theorem xUY_bound (μ : Mem) (s w t : Int) (h : 0 ≤ μ 13 1 ∧ μ 13 1 ≤ 4) : 0 ≤ xUY μ s w t ∧ xUY μ s w t ≤ 84 := by
  have := smf_bound (f := fun l => smf (fun n => if xUB μ l n s w t = -9 then 0 else 1) 0 21) (a := 0) (b := 21) (μ 13 1).toNat 0 (fun i _ _ => by
    have := smf_bound (f := fun n => if xUB μ i n s w t = -9 then 0 else 1) (a := 0) (b := 1) 21 0 (fun i _ _ => by constructor <;> split <;> omega)
    omega)
  unfold xUY
  omega
theorem xEC_bound (μ : Mem) (s t : Int) (h : 0 ≤ μ 13 1 ∧ μ 13 1 ≤ 4) : 0 ≤ xEC μ s t ∧ xEC μ s t ≤ 80 := by
  have := smf_bound (f := fun l => smf (fun n => if xV μ n l s < t ↔ xV μ (n + 1) l s < t then 0 else 1) 0 20) (a := 0) (b := 20) (μ 13 1).toNat 0 (fun i _ _ => by
    have := smf_bound (f := fun n => if xV μ n i s < t ↔ xV μ (n + 1) i s < t then 0 else 1) (a := 0) (b := 1) 20 0 (fun i _ _ => by constructor <;> split <;> omega)
    omega)
  unfold xEC
  omega
set_option maxRecDepth 100000 in
set_option maxHeartbeats 4000000 in
theorem X6_scale (μ : Mem) (hB : XB μ) (s w : Int) : CT TX md_X6_scale [aR 0, aI s, aI w] μ (fun rv μ1 => rv = some (aI (if (0 ≤ s ∧ s < μ 13 0) ∧ (0 ≤ w ∧ w ≤ 2) then (if w = 0 then μ 19 s else if w = 1 then μ 14 s else μ 20 s) else -1)) ∧ μ = μ1) := by
  refine CT.of (Nat.le_of_ble_eq_true rfl) (by decide) rfl (Nat.le_of_ble_eq_true rfl) (fun X hG hX => ?_)
  have hG : G TX X RX6 cX6_scale 3 1 22 (some .int) := hG
  show J TX X 3 0 [some (aR 0), some (aI s), some (aI w)] [] μ
  have hB2 := hB
  obtain ⟨h1, h2, h3, h4, h5, h6⟩ := hB2
  refine J.aload_n hG dX6_scale_0 rfl rfl ?_
  refine J.getR hG ciX6 rfl 1 1 rfl (Nat.le_of_ble_eq_true rfl) rfl fl_X6_19 dX6_scale_1 ?_
  refine J.iload_n hG dX6_scale_4 rfl rfl ?_
  refine J.callV hG (X1_hasScale _ _) ok_X1_hasScale ml_X6_106 rfl rfl rfl rfl (Nat.le_of_ble_eq_true rfl) ⟨Nat.le_of_ble_eq_true rfl, Nat.le_of_ble_eq_true rfl⟩ dX6_scale_5 rfl (fun r1 μ1 hp1 => ?_)
  obtain ⟨rfl, rfl⟩ := hp1
  refine J.ifb_eq hG 20 dX6_scale_8 rfl (fun h8 => ?_) (fun h8 => ?_)
  · refine J.iconst hG dX6_scale_20 (by decide) ?_
    refine J.iret hG dX6_scale_21 ?_
    rw [hX]; dsimp only
    exact ⟨by congr 2; try ((repeat' split) <;> first | rfl | (exfalso; omega) | omega), rfl⟩
  · refine J.iload_n hG dX6_scale_11 rfl rfl ?_
    refine J.iconst hG dX6_scale_12 (by decide) ?_
    refine J.iconst hG dX6_scale_13 (by decide) ?_
    refine J.callS hG (X6_within _ _ _ _) ok_X6_within ml_X6_70 rfl (Nat.le_of_ble_eq_true rfl) ⟨Nat.le_of_ble_eq_true rfl, Nat.le_of_ble_eq_true rfl⟩ dX6_scale_14 rfl (fun r1 μ1 hp1 => ?_)
    obtain ⟨rfl, rfl⟩ := hp1
    refine J.ifb_ne hG 22 dX6_scale_17 rfl (fun h17 => ?_) (fun h17 => ?_)
    · refine J.iload_n hG dX6_scale_22 rfl rfl ?_
      refine J.if_ne hG 36 dX6_scale_23 rfl (fun h23 => ?_) (fun h23 => ?_)
      · refine J.iload_n hG dX6_scale_36 rfl rfl ?_
        refine J.iconst hG dX6_scale_37 (by decide) ?_
        refine J.icmp_ne hG 53 dX6_scale_38 rfl (fun h38 => ?_) (fun h38 => ?_)
        · refine J.aload_n hG dX6_scale_53 rfl rfl ?_
          refine J.getR hG ciX6 rfl 2 2 rfl (Nat.le_of_ble_eq_true rfl) rfl fl_X6_26 dX6_scale_54 ?_
          refine J.getR hG ciX2 rfl 4 4 rfl (Nat.le_of_ble_eq_true rfl) rfl fl_X6_115 dX6_scale_57 ?_
          refine J.iload_n hG dX6_scale_60 rfl rfl ?_
          refine J.iald hG rfl (by omega) (by omega) dX6_scale_61 ?_
          refine J.iret hG dX6_scale_62 ?_
          rw [hX]; dsimp only
          exact ⟨by congr 2; try ((repeat' split) <;> first | rfl | (exfalso; omega) | omega), rfl⟩
        · refine J.aload_n hG dX6_scale_41 rfl rfl ?_
          refine J.getR hG ciX6 rfl 1 1 rfl (Nat.le_of_ble_eq_true rfl) rfl fl_X6_19 dX6_scale_42 ?_
          refine J.getR hG ciX1 rfl 4 4 rfl (Nat.le_of_ble_eq_true rfl) rfl fl_X6_112 dX6_scale_45 ?_
          refine J.iload_n hG dX6_scale_48 rfl rfl ?_
          refine J.iald hG rfl (by omega) (by omega) dX6_scale_49 ?_
          refine J.goto hG 62 dX6_scale_50 rfl ?_
          refine J.iret hG dX6_scale_62 ?_
          rw [hX]; dsimp only
          exact ⟨by congr 2; try ((repeat' split) <;> first | rfl | (exfalso; omega) | omega), rfl⟩
      · refine J.aload_n hG dX6_scale_26 rfl rfl ?_
        refine J.getR hG ciX6 rfl 2 2 rfl (Nat.le_of_ble_eq_true rfl) rfl fl_X6_26 dX6_scale_27 ?_
        refine J.getR hG ciX2 rfl 3 3 rfl (Nat.le_of_ble_eq_true rfl) rfl fl_X6_109 dX6_scale_30 ?_
        refine J.iload_n hG dX6_scale_33 rfl rfl ?_
        refine J.iald hG rfl (by omega) (by omega) dX6_scale_34 ?_
        refine J.iret hG dX6_scale_35 ?_
        rw [hX]; dsimp only
        exact ⟨by congr 2; try ((repeat' split) <;> first | rfl | (exfalso; omega) | omega), rfl⟩
    · refine J.iconst hG dX6_scale_20 (by decide) ?_
      refine J.iret hG dX6_scale_21 ?_
      rw [hX]; dsimp only
      exact ⟨by congr 2; try ((repeat' split) <;> first | rfl | (exfalso; omega) | omega), rfl⟩

set_option maxRecDepth 100000 in
set_option maxHeartbeats 4000000 in
theorem X6_life (μ : Mem) (hB : XB μ) (l s w : Int) : CT TX md_X6_life [aR 0, aI l, aI s, aI w] μ (fun rv μ1 => rv = some (aI (if (0 ≤ l ∧ l < μ 13 1) ∧ (0 ≤ s ∧ s < μ 13 0) ∧ (0 ≤ w ∧ w ≤ 2) then (if w = 0 then μ 18 (l * 4 + s) else if w = 1 then μ 15 (l * 4 + s) + 3 else xE μ 0 l s) else -1)) ∧ μ = μ1) := by
  refine CT.of (Nat.le_of_ble_eq_true rfl) (by decide) rfl (Nat.le_of_ble_eq_true rfl) (fun X hG hX => ?_)
  have hG : G TX X RX6 cX6_life 4 4 99 (some .int) := hG
  show J TX X 4 0 [some (aR 0), some (aI l), some (aI s), some (aI w)] [] μ
  have hB2 := hB
  obtain ⟨h1, h2, h3, h4, h5, h6⟩ := hB2
  refine J.aload_n hG dX6_life_0 rfl rfl ?_
  refine J.getR hG ciX6 rfl 1 1 rfl (Nat.le_of_ble_eq_true rfl) rfl fl_X6_19 dX6_life_1 ?_
  refine J.iload_n hG dX6_life_4 rfl rfl ?_
  refine J.callV hG (X1_hasLife _ _) ok_X1_hasLife ml_X6_118 rfl rfl rfl rfl (Nat.le_of_ble_eq_true rfl) ⟨Nat.le_of_ble_eq_true rfl, Nat.le_of_ble_eq_true rfl⟩ dX6_life_5 rfl (fun r1 μ1 hp1 => ?_)
  obtain ⟨rfl, rfl⟩ := hp1
  refine J.ifb_eq hG 31 dX6_life_8 rfl (fun h8 => ?_) (fun h8 => ?_)
  · refine J.iconst hG dX6_life_31 (by decide) ?_
    refine J.iret hG dX6_life_32 ?_
    rw [hX]; dsimp only
    exact ⟨by congr 2; try ((repeat' split) <;> first | rfl | (exfalso; omega) | omega), rfl⟩
  · refine J.aload_n hG dX6_life_11 rfl rfl ?_
    refine J.getR hG ciX6 rfl 1 1 rfl (Nat.le_of_ble_eq_true rfl) rfl fl_X6_19 dX6_life_12 ?_
    refine J.iload_n hG dX6_life_15 rfl rfl ?_
    refine J.callV hG (X1_hasScale _ _) ok_X1_hasScale ml_X6_106 rfl rfl rfl rfl (Nat.le_of_ble_eq_true rfl) ⟨Nat.le_of_ble_eq_true rfl, Nat.le_of_ble_eq_true rfl⟩ dX6_life_16 rfl (fun r1 μ1 hp1 => ?_)
    obtain ⟨rfl, rfl⟩ := hp1
    refine J.ifb_eq hG 31 dX6_life_19 rfl (fun h19 => ?_) (fun h19 => ?_)
    · refine J.iconst hG dX6_life_31 (by decide) ?_
      refine J.iret hG dX6_life_32 ?_
      rw [hX]; dsimp only
      exact ⟨by congr 2; try ((repeat' split) <;> first | rfl | (exfalso; omega) | omega), rfl⟩
    · refine J.iload_n hG dX6_life_22 rfl rfl ?_
      refine J.iconst hG dX6_life_23 (by decide) ?_
      refine J.iconst hG dX6_life_24 (by decide) ?_
      refine J.callS hG (X6_within _ _ _ _) ok_X6_within ml_X6_70 rfl (Nat.le_of_ble_eq_true rfl) ⟨Nat.le_of_ble_eq_true rfl, Nat.le_of_ble_eq_true rfl⟩ dX6_life_25 rfl (fun r1 μ1 hp1 => ?_)
      obtain ⟨rfl, rfl⟩ := hp1
      refine J.ifb_ne hG 33 dX6_life_28 rfl (fun h28 => ?_) (fun h28 => ?_)
      · refine J.iload_n hG dX6_life_33 rfl rfl ?_
        refine J.if_ne hG 51 dX6_life_34 rfl (fun h34 => ?_) (fun h34 => ?_)
        · refine J.iload_n hG dX6_life_51 rfl rfl ?_
          refine J.iconst hG dX6_life_52 (by decide) ?_
          refine J.icmp_ne hG 74 dX6_life_53 rfl (fun h53 => ?_) (fun h53 => ?_)
          · refine J.aload_n hG dX6_life_74 rfl rfl ?_
            refine J.iconst hG dX6_life_75 (by decide) ?_
            refine J.iload_n hG dX6_life_76 rfl rfl ?_
            refine J.iload_n hG dX6_life_77 rfl rfl ?_
            refine J.callV hG (X6_endBehind _ hB _ _ _ (by omega) (by omega) (by omega)) ok_X6_endBehind ml_X6_131 rfl rfl rfl rfl (Nat.le_of_ble_eq_true rfl) ⟨Nat.le_of_ble_eq_true rfl, Nat.le_of_ble_eq_true rfl⟩ dX6_life_78 rfl (fun r1 μ1 hp1 => ?_)
            obtain ⟨rfl, rfl⟩ := hp1
            refine J.iret hG dX6_life_81 ?_
            rw [hX]; dsimp only
            exact ⟨by congr 2; try ((repeat' split) <;> first | rfl | (exfalso; omega) | omega), rfl⟩
          · have q6 := h6 l s (by omega) (by omega) (by omega) (by omega)
            refine J.aload_n hG dX6_life_56 rfl rfl ?_
            refine J.getR hG ciX6 rfl 1 1 rfl (Nat.le_of_ble_eq_true rfl) rfl fl_X6_19 dX6_life_57 ?_
            refine J.getR hG ciX1 rfl 5 5 rfl (Nat.le_of_ble_eq_true rfl) rfl fl_X6_128 dX6_life_60 ?_
            refine J.iload_n hG dX6_life_63 rfl rfl ?_
            refine J.iload_n hG dX6_life_64 rfl rfl ?_
            refine J.callS hG (X6_cell _ _ _ (by omega) (by omega)) ok_X6_cell ml_X6_124 rfl (Nat.le_of_ble_eq_true rfl) ⟨Nat.le_of_ble_eq_true rfl, Nat.le_of_ble_eq_true rfl⟩ dX6_life_65 rfl (fun r1 μ1 hp1 => ?_)
            obtain ⟨rfl, rfl⟩ := hp1
            refine J.iald hG rfl (by omega) (by omega) dX6_life_68 ?_
            refine J.iconst hG dX6_life_69 (by decide) ?_
            refine J.iadd hG dX6_life_70 (fun _ _ => (by omega)) ?_
            refine J.goto hG 81 dX6_life_71 rfl ?_
            refine J.iret hG dX6_life_81 ?_
            rw [hX]; dsimp only
            exact ⟨by congr 2; try ((repeat' split) <;> first | rfl | (exfalso; omega) | omega), rfl⟩
        · refine J.aload_n hG dX6_life_37 rfl rfl ?_
          refine J.getR hG ciX6 rfl 2 2 rfl (Nat.le_of_ble_eq_true rfl) rfl fl_X6_26 dX6_life_38 ?_
          refine J.getR hG ciX2 rfl 2 2 rfl (Nat.le_of_ble_eq_true rfl) rfl fl_X6_121 dX6_life_41 ?_
          refine J.iload_n hG dX6_life_44 rfl rfl ?_
          refine J.iload_n hG dX6_life_45 rfl rfl ?_
          refine J.callS hG (X6_cell _ _ _ (by omega) (by omega)) ok_X6_cell ml_X6_124 rfl (Nat.le_of_ble_eq_true rfl) ⟨Nat.le_of_ble_eq_true rfl, Nat.le_of_ble_eq_true rfl⟩ dX6_life_46 rfl (fun r1 μ1 hp1 => ?_)
          obtain ⟨rfl, rfl⟩ := hp1
          refine J.iald hG rfl (by omega) (by omega) dX6_life_49 ?_
          refine J.iret hG dX6_life_50 ?_
          rw [hX]; dsimp only
          exact ⟨by congr 2; try ((repeat' split) <;> first | rfl | (exfalso; omega) | omega), rfl⟩
      · refine J.iconst hG dX6_life_31 (by decide) ?_
        refine J.iret hG dX6_life_32 ?_
        rw [hX]; dsimp only
        exact ⟨by congr 2; try ((repeat' split) <;> first | rfl | (exfalso; omega) | omega), rfl⟩

set_option maxRecDepth 100000 in
set_option maxHeartbeats 4000000 in
theorem X6_end (μ : Mem) (hB : XB μ) (s v : Int) : CT TX md_X6_end [aR 0, aI s, aI v] μ (fun rv μ1 => rv = some (aI (if (0 ≤ s ∧ s < μ 13 0) ∧ (0 ≤ v ∧ v ≤ μ 14 s) then EB (μ 19 s) (μ 20 s) (μ 14 s) v else -1)) ∧ μ = μ1) := by
  refine CT.of (Nat.le_of_ble_eq_true rfl) (by decide) rfl (Nat.le_of_ble_eq_true rfl) (fun X hG hX => ?_)
  have hG : G TX X RX6 cX6_end 3 2 46 (some .int) := hG
  show J TX X 3 0 [some (aR 0), some (aI s), some (aI v)] [] μ
  have hB2 := hB
  obtain ⟨h1, h2, h3, h4, h5, h6⟩ := hB2
  refine J.aload_n hG dX6_end_0 rfl rfl ?_
  refine J.getR hG ciX6 rfl 1 1 rfl (Nat.le_of_ble_eq_true rfl) rfl fl_X6_19 dX6_end_1 ?_
  refine J.iload_n hG dX6_end_4 rfl rfl ?_
  refine J.callV hG (X1_hasScale _ _) ok_X1_hasScale ml_X6_106 rfl rfl rfl rfl (Nat.le_of_ble_eq_true rfl) ⟨Nat.le_of_ble_eq_true rfl, Nat.le_of_ble_eq_true rfl⟩ dX6_end_5 rfl (fun r1 μ1 hp1 => ?_)
  obtain ⟨rfl, rfl⟩ := hp1
  refine J.ifb_eq hG 28 dX6_end_8 rfl (fun h8 => ?_) (fun h8 => ?_)
  · refine J.iconst hG dX6_end_28 (by decide) ?_
    refine J.iret hG dX6_end_29 ?_
    rw [hX]; dsimp only
    exact ⟨by congr 2; try ((repeat' split) <;> first | rfl | (exfalso; omega) | omega), rfl⟩
  · have q5 := h5 s (by omega) (by omega)
    refine J.iload_n hG dX6_end_11 rfl rfl ?_
    refine J.iconst hG dX6_end_12 (by decide) ?_
    refine J.aload_n hG dX6_end_13 rfl rfl ?_
    refine J.getR hG ciX6 rfl 1 1 rfl (Nat.le_of_ble_eq_true rfl) rfl fl_X6_19 dX6_end_14 ?_
    refine J.getR hG ciX1 rfl 4 4 rfl (Nat.le_of_ble_eq_true rfl) rfl fl_X6_112 dX6_end_17 ?_
    refine J.iload_n hG dX6_end_20 rfl rfl ?_
    refine J.iald hG rfl (by omega) (by omega) dX6_end_21 ?_
    refine J.callS hG (X6_within _ _ _ _) ok_X6_within ml_X6_70 rfl (Nat.le_of_ble_eq_true rfl) ⟨Nat.le_of_ble_eq_true rfl, Nat.le_of_ble_eq_true rfl⟩ dX6_end_22 rfl (fun r1 μ1 hp1 => ?_)
    obtain ⟨rfl, rfl⟩ := hp1
    refine J.ifb_ne hG 30 dX6_end_25 rfl (fun h25 => ?_) (fun h25 => ?_)
    · refine J.aload_n hG dX6_end_30 rfl rfl ?_
      refine J.iload_n hG dX6_end_31 rfl rfl ?_
      refine J.iload_n hG dX6_end_32 rfl rfl ?_
      refine J.callV hG (X6_endOf _ _ _ (by omega) (by omega)) ok_X6_endOf ml_X6_135 rfl rfl rfl rfl (Nat.le_of_ble_eq_true rfl) ⟨Nat.le_of_ble_eq_true rfl, Nat.le_of_ble_eq_true rfl⟩ dX6_end_33 rfl (fun r1 μ1 hp1 => ?_)
      obtain ⟨rfl, rfl⟩ := hp1
      refine J.iret hG dX6_end_36 ?_
      rw [hX]; dsimp only
      exact ⟨by congr 2; try ((repeat' split) <;> first | rfl | (exfalso; omega) | omega), rfl⟩
    · refine J.iconst hG dX6_end_28 (by decide) ?_
      refine J.iret hG dX6_end_29 ?_
      rw [hX]; dsimp only
      exact ⟨by congr 2; try ((repeat' split) <;> first | rfl | (exfalso; omega) | omega), rfl⟩

set_option maxRecDepth 100000 in
set_option maxHeartbeats 4000000 in
theorem X6_place (μ : Mem) (hB : XB μ) (p : Int) : CT TX md_X6_place [aR 0, aI p] μ (fun rv μ1 => rv = some (aI (if 0 ≤ p ∧ p < μ 13 2 then μ 16 p else -1)) ∧ μ = μ1) := by
  refine CT.of (Nat.le_of_ble_eq_true rfl) (by decide) rfl (Nat.le_of_ble_eq_true rfl) (fun X hG hX => ?_)
  have hG : G TX X RX6 cX6_place 2 1 21 (some .int) := hG
  show J TX X 2 0 [some (aR 0), some (aI p)] [] μ
  have hB2 := hB
  obtain ⟨h1, h2, h3, h4, h5, h6⟩ := hB2
  refine J.aload_n hG dX6_place_0 rfl rfl ?_
  refine J.getR hG ciX6 rfl 1 1 rfl (Nat.le_of_ble_eq_true rfl) rfl fl_X6_19 dX6_place_1 ?_
  refine J.iload_n hG dX6_place_4 rfl rfl ?_
  refine J.callV hG (X1_hasPlace _ _) ok_X1_hasPlace ml_X6_138 rfl rfl rfl rfl (Nat.le_of_ble_eq_true rfl) ⟨Nat.le_of_ble_eq_true rfl, Nat.le_of_ble_eq_true rfl⟩ dX6_place_5 rfl (fun r1 μ1 hp1 => ?_)
  obtain ⟨rfl, rfl⟩ := hp1
  refine J.ifb_eq hG 23 dX6_place_8 rfl (fun h8 => ?_) (fun h8 => ?_)
  · refine J.iconst hG dX6_place_23 (by decide) ?_
    refine J.iret hG dX6_place_24 ?_
    rw [hX]; dsimp only
    exact ⟨by congr 2; try ((repeat' split) <;> first | rfl | (exfalso; omega) | omega), rfl⟩
  · refine J.aload_n hG dX6_place_11 rfl rfl ?_
    refine J.getR hG ciX6 rfl 1 1 rfl (Nat.le_of_ble_eq_true rfl) rfl fl_X6_19 dX6_place_12 ?_
    refine J.getR hG ciX1 rfl 6 6 rfl (Nat.le_of_ble_eq_true rfl) rfl fl_X6_141 dX6_place_15 ?_
    refine J.iload_n hG dX6_place_18 rfl rfl ?_
    refine J.iald hG rfl (by omega) (by omega) dX6_place_19 ?_
    refine J.goto hG 24 dX6_place_20 rfl ?_
    refine J.iret hG dX6_place_24 ?_
    rw [hX]; dsimp only
    exact ⟨by congr 2; try ((repeat' split) <;> first | rfl | (exfalso; omega) | omega), rfl⟩

set_option maxRecDepth 100000 in
set_option maxHeartbeats 4000000 in
theorem X6_behind (μ : Mem) (hB : XB μ) (n l s : Int) : CT TX md_X6_behind [aR 0, aI n, aI l, aI s] μ (fun rv μ1 => rv = some (aI (if (0 ≤ n ∧ n ≤ 60) ∧ (0 ≤ l ∧ l < μ 13 1) ∧ (0 ≤ s ∧ s < μ 13 0) then xE μ n l s else -1)) ∧ μ = μ1) := by
  refine CT.of (Nat.le_of_ble_eq_true rfl) (by decide) rfl (Nat.le_of_ble_eq_true rfl) (fun X hG hX => ?_)
  have hG : G TX X RX6 cX6_behind 4 4 99 (some .int) := hG
  show J TX X 4 0 [some (aR 0), some (aI n), some (aI l), some (aI s)] [] μ
  have hB2 := hB
  obtain ⟨h1, h2, h3, h4, h5, h6⟩ := hB2
  refine J.iload_n hG dX6_behind_0 rfl rfl ?_
  refine J.iconst hG dX6_behind_1 (by decide) ?_
  refine J.bipush hG dX6_behind_2 (by decide) (by decide) ?_
  refine J.callS hG (X6_within _ _ _ _) ok_X6_within ml_X6_70 rfl (Nat.le_of_ble_eq_true rfl) ⟨Nat.le_of_ble_eq_true rfl, Nat.le_of_ble_eq_true rfl⟩ dX6_behind_4 rfl (fun r1 μ1 hp1 => ?_)
  obtain ⟨rfl, rfl⟩ := hp1
  refine J.ifb_eq hG 32 dX6_behind_7 rfl (fun h7 => ?_) (fun h7 => ?_)
  · refine J.iconst hG dX6_behind_32 (by decide) ?_
    refine J.iret hG dX6_behind_33 ?_
    rw [hX]; dsimp only
    exact ⟨by congr 2; try ((repeat' split) <;> first | rfl | (exfalso; omega) | omega), rfl⟩
  · refine J.aload_n hG dX6_behind_10 rfl rfl ?_
    refine J.getR hG ciX6 rfl 1 1 rfl (Nat.le_of_ble_eq_true rfl) rfl fl_X6_19 dX6_behind_11 ?_
    refine J.iload_n hG dX6_behind_14 rfl rfl ?_
    refine J.callV hG (X1_hasLife _ _) ok_X1_hasLife ml_X6_118 rfl rfl rfl rfl (Nat.le_of_ble_eq_true rfl) ⟨Nat.le_of_ble_eq_true rfl, Nat.le_of_ble_eq_true rfl⟩ dX6_behind_15 rfl (fun r1 μ1 hp1 => ?_)
    obtain ⟨rfl, rfl⟩ := hp1
    refine J.ifb_eq hG 32 dX6_behind_18 rfl (fun h18 => ?_) (fun h18 => ?_)
    · refine J.iconst hG dX6_behind_32 (by decide) ?_
      refine J.iret hG dX6_behind_33 ?_
      rw [hX]; dsimp only
      exact ⟨by congr 2; try ((repeat' split) <;> first | rfl | (exfalso; omega) | omega), rfl⟩
    · refine J.aload_n hG dX6_behind_21 rfl rfl ?_
      refine J.getR hG ciX6 rfl 1 1 rfl (Nat.le_of_ble_eq_true rfl) rfl fl_X6_19 dX6_behind_22 ?_
      refine J.iload_n hG dX6_behind_25 rfl rfl ?_
      refine J.callV hG (X1_hasScale _ _) ok_X1_hasScale ml_X6_106 rfl rfl rfl rfl (Nat.le_of_ble_eq_true rfl) ⟨Nat.le_of_ble_eq_true rfl, Nat.le_of_ble_eq_true rfl⟩ dX6_behind_26 rfl (fun r1 μ1 hp1 => ?_)
      obtain ⟨rfl, rfl⟩ := hp1
      refine J.ifb_ne hG 34 dX6_behind_29 rfl (fun h29 => ?_) (fun h29 => ?_)
      · refine J.aload_n hG dX6_behind_34 rfl rfl ?_
        refine J.iload_n hG dX6_behind_35 rfl rfl ?_
        refine J.iload_n hG dX6_behind_36 rfl rfl ?_
        refine J.iload_n hG dX6_behind_37 rfl rfl ?_
        refine J.callV hG (X6_endBehind _ hB _ _ _ (by omega) (by omega) (by omega)) ok_X6_endBehind ml_X6_131 rfl rfl rfl rfl (Nat.le_of_ble_eq_true rfl) ⟨Nat.le_of_ble_eq_true rfl, Nat.le_of_ble_eq_true rfl⟩ dX6_behind_38 rfl (fun r1 μ1 hp1 => ?_)
        obtain ⟨rfl, rfl⟩ := hp1
        refine J.iret hG dX6_behind_41 ?_
        rw [hX]; dsimp only
        exact ⟨by congr 2; try ((repeat' split) <;> first | rfl | (exfalso; omega) | omega), rfl⟩
      · refine J.iconst hG dX6_behind_32 (by decide) ?_
        refine J.iret hG dX6_behind_33 ?_
        rw [hX]; dsimp only
        exact ⟨by congr 2; try ((repeat' split) <;> first | rfl | (exfalso; omega) | omega), rfl⟩

set_option maxRecDepth 100000 in
set_option maxHeartbeats 4000000 in
theorem X6_freed (μ : Mem) (hB : XB μ) (s w t : Int) : CT TX md_X6_freed [aR 0, aI s, aI w, aI t] μ (fun rv μ1 => rv = some (aI (if (0 ≤ s ∧ s < μ 13 0) ∧ (0 ≤ w ∧ w ≤ 3) ∧ (1 ≤ t ∧ t ≤ μ 14 s) then xUY μ s (μ 19 s) (μ 20 s) - xUY μ s w t else -1000000)) ∧ μ = μ1) := by
  refine CT.of (Nat.le_of_ble_eq_true rfl) (by decide) rfl (Nat.le_of_ble_eq_true rfl) (fun X hG hX => ?_)
  have hG : G TX X RX6 cX6_freed 4 5 130 (some .int) := hG
  show J TX X 4 0 [some (aR 0), some (aI s), some (aI w), some (aI t)] [] μ
  have hB2 := hB
  obtain ⟨h1, h2, h3, h4, h5, h6⟩ := hB2
  have q7 := xUY_bound μ s (μ 19 s) (μ 20 s) h2
  have q8 := xUY_bound μ s w t h2
  refine J.aload_n hG dX6_freed_0 rfl rfl ?_
  refine J.iload_n hG dX6_freed_1 rfl rfl ?_
  refine J.iload_n hG dX6_freed_2 rfl rfl ?_
  refine J.iload_n hG dX6_freed_3 rfl rfl ?_
  refine J.callV hG (X6_canBeLaw _ _ _ _ hB) ok_X6_canBeLaw ml_X6_156 rfl rfl rfl rfl (Nat.le_of_ble_eq_true rfl) ⟨Nat.le_of_ble_eq_true rfl, Nat.le_of_ble_eq_true rfl⟩ dX6_freed_4 rfl (fun r1 μ1 hp1 => ?_)
  obtain ⟨rfl, rfl⟩ := hp1
  refine J.ifb_ne hG 13 dX6_freed_7 rfl (fun h7 => ?_) (fun h7 => ?_)
  · refine J.aload_n hG dX6_freed_13 rfl rfl ?_
    refine J.iload_n hG dX6_freed_14 rfl rfl ?_
    refine J.aload_n hG dX6_freed_15 rfl rfl ?_
    refine J.getR hG ciX6 rfl 2 2 rfl (Nat.le_of_ble_eq_true rfl) rfl fl_X6_26 dX6_freed_16 ?_
    refine J.getR hG ciX2 rfl 3 3 rfl (Nat.le_of_ble_eq_true rfl) rfl fl_X6_109 dX6_freed_19 ?_
    refine J.iload_n hG dX6_freed_22 rfl rfl ?_
    refine J.iald hG rfl (by omega) (by omega) dX6_freed_23 ?_
    refine J.aload_n hG dX6_freed_24 rfl rfl ?_
    refine J.getR hG ciX6 rfl 2 2 rfl (Nat.le_of_ble_eq_true rfl) rfl fl_X6_26 dX6_freed_25 ?_
    refine J.getR hG ciX2 rfl 4 4 rfl (Nat.le_of_ble_eq_true rfl) rfl fl_X6_115 dX6_freed_28 ?_
    refine J.iload_n hG dX6_freed_31 rfl rfl ?_
    refine J.iald hG rfl (by omega) (by omega) dX6_freed_32 ?_
    refine J.callV hG (X6_unlawfulYears _ hB _ _ _ (by omega)) ok_X6_unlawfulYears ml_X6_185 rfl rfl rfl rfl (Nat.le_of_ble_eq_true rfl) ⟨Nat.le_of_ble_eq_true rfl, Nat.le_of_ble_eq_true rfl⟩ dX6_freed_33 rfl (fun r1 μ1 hp1 => ?_)
    obtain ⟨rfl, rfl⟩ := hp1
    refine J.aload_n hG dX6_freed_36 rfl rfl ?_
    refine J.iload_n hG dX6_freed_37 rfl rfl ?_
    refine J.iload_n hG dX6_freed_38 rfl rfl ?_
    refine J.iload_n hG dX6_freed_39 rfl rfl ?_
    refine J.callV hG (X6_unlawfulYears _ hB _ _ _ (by omega)) ok_X6_unlawfulYears ml_X6_185 rfl rfl rfl rfl (Nat.le_of_ble_eq_true rfl) ⟨Nat.le_of_ble_eq_true rfl, Nat.le_of_ble_eq_true rfl⟩ dX6_freed_40 rfl (fun r1 μ1 hp1 => ?_)
    obtain ⟨rfl, rfl⟩ := hp1
    refine J.isub hG dX6_freed_43 (fun _ _ => (by omega)) ?_
    refine J.iret hG dX6_freed_44 ?_
    rw [hX]; dsimp only
    exact ⟨by congr 2; try ((repeat' split) <;> first | rfl | (exfalso; omega) | omega), rfl⟩
  · refine J.ldc hG (n := -1000000) dX6_freed_10 ct_X6_184 (by decide) (by decide) ?_
    refine J.iret hG dX6_freed_12 ?_
    rw [hX]; dsimp only
    exact ⟨by congr 2; try ((repeat' split) <;> first | rfl | (exfalso; omega) | omega), rfl⟩

set_option maxRecDepth 100000 in
set_option maxHeartbeats 4000000 in
theorem X6_now (μ : Mem) (hB : XB μ) (w : Int) : CT TX md_X6_now [aR 0, aI w] μ (fun rv μ1 => rv = some (aI (if w = 0 then μ 17 0 else if w = 1 then xBits μ else if w = 2 then xDr μ else if w = 3 then (if μ 13 3 < xDr μ then 1 else 0) else if w = 4 then μ 17 1 else if w = 5 then μ 21 0 else -1)) ∧ μ = μ1) := by
  refine CT.of (Nat.le_of_ble_eq_true rfl) (by decide) rfl (Nat.le_of_ble_eq_true rfl) (fun X hG hX => ?_)
  have hG : G TX X RX6 cX6_now 2 6 144 (some .int) := hG
  show J TX X 2 0 [some (aR 0), some (aI w)] [] μ
  have hB2 := hB
  obtain ⟨h1, h2, h3, h4, h5, h6⟩ := hB2
  refine J.iload_n hG dX6_now_0 rfl rfl ?_
  rcases (show w = 0 ∨ w = 1 ∨ w = 2 ∨ w = 3 ∨ w = 4 ∨ w = 5 ∨ (w < 0 ∨ 5 < w) by omega) with rfl | rfl | rfl | rfl | rfl | rfl | hw1
  · refine J.tabIn hG 40 dX6_now_1 (by decide) (by decide) (off := 39) rfl rfl ?_
    refine J.aload_n hG dX6_now_40 rfl rfl ?_
    refine J.getR hG ciX6 rfl 2 2 rfl (Nat.le_of_ble_eq_true rfl) rfl fl_X6_26 dX6_now_41 ?_
    refine J.getI hG ciX2 rfl 0 0 rfl (Nat.le_of_ble_eq_true rfl) rfl fl_X6_144 dX6_now_44 ?_
    refine J.iret hG dX6_now_47 ?_
    rw [hX]; dsimp only
    exact ⟨by congr 2; try ((repeat' split) <;> first | rfl | (exfalso; omega) | omega), rfl⟩
  · refine J.tabIn hG 48 dX6_now_1 (by decide) (by decide) (off := 47) rfl rfl ?_
    refine J.aload_n hG dX6_now_48 rfl rfl ?_
    refine J.callV hG (X6_unlawfulLives _ hB) ok_X6_unlawfulLives ml_X6_159 rfl rfl rfl rfl (Nat.le_of_ble_eq_true rfl) ⟨Nat.le_of_ble_eq_true rfl, Nat.le_of_ble_eq_true rfl⟩ dX6_now_49 rfl (fun r1 μ1 hp1 => ?_)
    obtain ⟨rfl, rfl⟩ := hp1
    refine J.iret hG dX6_now_52 ?_
    rw [hX]; dsimp only
    exact ⟨by congr 2; try ((repeat' split) <;> first | rfl | (exfalso; omega) | omega), rfl⟩
  · refine J.tabIn hG 53 dX6_now_1 (by decide) (by decide) (off := 52) rfl rfl ?_
    refine J.aload_n hG dX6_now_53 rfl rfl ?_
    refine J.callV hG (X6_inTheDrawer _ hB) ok_X6_inTheDrawer ml_X6_172 rfl rfl rfl rfl (Nat.le_of_ble_eq_true rfl) ⟨Nat.le_of_ble_eq_true rfl, Nat.le_of_ble_eq_true rfl⟩ dX6_now_54 rfl (fun r1 μ1 hp1 => ?_)
    obtain ⟨rfl, rfl⟩ := hp1
    refine J.iret hG dX6_now_57 ?_
    rw [hX]; dsimp only
    exact ⟨by congr 2; try ((repeat' split) <;> first | rfl | (exfalso; omega) | omega), rfl⟩
  · refine J.tabIn hG 58 dX6_now_1 (by decide) (by decide) (off := 57) rfl rfl ?_
    refine J.aload_n hG dX6_now_58 rfl rfl ?_
    refine J.callV hG (X6_inTheDrawer _ hB) ok_X6_inTheDrawer ml_X6_172 rfl rfl rfl rfl (Nat.le_of_ble_eq_true rfl) ⟨Nat.le_of_ble_eq_true rfl, Nat.le_of_ble_eq_true rfl⟩ dX6_now_59 rfl (fun r1 μ1 hp1 => ?_)
    obtain ⟨rfl, rfl⟩ := hp1
    refine J.aload_n hG dX6_now_62 rfl rfl ?_
    refine J.getR hG ciX6 rfl 1 1 rfl (Nat.le_of_ble_eq_true rfl) rfl fl_X6_19 dX6_now_63 ?_
    refine J.getI hG ciX1 rfl 3 3 rfl (Nat.le_of_ble_eq_true rfl) rfl fl_X6_175 dX6_now_66 ?_
    refine J.icmp_le hG 76 dX6_now_69 rfl (fun h69 => ?_) (fun h69 => ?_)
    · refine J.iconst hG dX6_now_76 (by decide) ?_
      refine J.iret hG dX6_now_77 ?_
      rw [hX]; dsimp only
      exact ⟨by congr 2; try ((repeat' split) <;> first | rfl | (exfalso; omega) | omega), rfl⟩
    · refine J.iconst hG dX6_now_72 (by decide) ?_
      refine J.goto hG 77 dX6_now_73 rfl ?_
      refine J.iret hG dX6_now_77 ?_
      rw [hX]; dsimp only
      exact ⟨by congr 2; try ((repeat' split) <;> first | rfl | (exfalso; omega) | omega), rfl⟩
  · refine J.tabIn hG 78 dX6_now_1 (by decide) (by decide) (off := 77) rfl rfl ?_
    refine J.aload_n hG dX6_now_78 rfl rfl ?_
    refine J.getR hG ciX6 rfl 2 2 rfl (Nat.le_of_ble_eq_true rfl) rfl fl_X6_26 dX6_now_79 ?_
    refine J.getI hG ciX2 rfl 1 1 rfl (Nat.le_of_ble_eq_true rfl) rfl fl_X6_178 dX6_now_82 ?_
    refine J.iret hG dX6_now_85 ?_
    rw [hX]; dsimp only
    exact ⟨by congr 2; try ((repeat' split) <;> first | rfl | (exfalso; omega) | omega), rfl⟩
  · refine J.tabIn hG 86 dX6_now_1 (by decide) (by decide) (off := 85) rfl rfl ?_
    refine J.aload_n hG dX6_now_86 rfl rfl ?_
    refine J.getR hG ciX6 rfl 3 3 rfl (Nat.le_of_ble_eq_true rfl) rfl fl_X6_33 dX6_now_87 ?_
    refine J.getI hG ciX3 rfl 0 0 rfl (Nat.le_of_ble_eq_true rfl) rfl fl_X6_99 dX6_now_90 ?_
    refine J.iret hG dX6_now_93 ?_
    rw [hX]; dsimp only
    exact ⟨by congr 2; try ((repeat' split) <;> first | rfl | (exfalso; omega) | omega), rfl⟩
  · refine J.tabOut hG 94 dX6_now_1 hw1 rfl ?_
    refine J.iconst hG dX6_now_94 (by decide) ?_
    refine J.iret hG dX6_now_95 ?_
    rw [hX]; dsimp only
    exact ⟨by congr 2; try ((repeat' split) <;> first | rfl | (exfalso; omega) | omega), rfl⟩

set_option maxRecDepth 100000 in
set_option maxHeartbeats 4000000 in
theorem X6_first (μ : Mem) (hB : XB μ) (l w : Int) : CT TX md_X6_first [aR 0, aI l, aI w] μ (fun rv μ1 => rv = some (aI (if (0 ≤ l ∧ l < μ 13 1) ∧ (0 ≤ w ∧ w ≤ 1) then fN (fun n => xU μ n l) w 61 0 else -1)) ∧ μ = μ1) := by
  refine CT.of (Nat.le_of_ble_eq_true rfl) (by decide) rfl (Nat.le_of_ble_eq_true rfl) (fun X hG hX => ?_)
  have hG : G TX X RX6 cX6_first 5 5 122 (some .int) := hG
  show J TX X 5 0 [some (aR 0), some (aI l), some (aI w), none, none] [] μ
  have hB2 := hB
  obtain ⟨h1, h2, h3, h4, h5, h6⟩ := hB2
  refine J.aload_n hG dX6_first_0 rfl rfl ?_
  refine J.getR hG ciX6 rfl 1 1 rfl (Nat.le_of_ble_eq_true rfl) rfl fl_X6_19 dX6_first_1 ?_
  refine J.iload_n hG dX6_first_4 rfl rfl ?_
  refine J.callV hG (X1_hasLife _ _) ok_X1_hasLife ml_X6_118 rfl rfl rfl rfl (Nat.le_of_ble_eq_true rfl) ⟨Nat.le_of_ble_eq_true rfl, Nat.le_of_ble_eq_true rfl⟩ dX6_first_5 rfl (fun r1 μ1 hp1 => ?_)
  obtain ⟨rfl, rfl⟩ := hp1
  refine J.ifb_eq hG 20 dX6_first_8 rfl (fun h8 => ?_) (fun h8 => ?_)
  · refine J.iconst hG dX6_first_20 (by decide) ?_
    refine J.iret hG dX6_first_21 ?_
    rw [hX]; dsimp only
    exact ⟨by congr 2; try ((repeat' split) <;> first | rfl | (exfalso; omega) | omega), rfl⟩
  · refine J.iload_n hG dX6_first_11 rfl rfl ?_
    refine J.iconst hG dX6_first_12 (by decide) ?_
    refine J.iconst hG dX6_first_13 (by decide) ?_
    refine J.callS hG (X6_within _ _ _ _) ok_X6_within ml_X6_70 rfl (Nat.le_of_ble_eq_true rfl) ⟨Nat.le_of_ble_eq_true rfl, Nat.le_of_ble_eq_true rfl⟩ dX6_first_14 rfl (fun r1 μ1 hp1 => ?_)
    obtain ⟨rfl, rfl⟩ := hp1
    refine J.ifb_ne hG 22 dX6_first_17 rfl (fun h17 => ?_) (fun h17 => ?_)
    · refine J.iconst hG dX6_first_22 (by decide) ?_
      refine J.istore_n hG dX6_first_23 rfl (Nat.le_of_ble_eq_true rfl) ?_
      have lp : ∀ (k : Nat) (n : Int), 0 ≤ n → n + k = 61 → (fN (fun n => xU μ n l) w k n = fN (fun n => xU μ n l) w 61 0) → J TX X 5 24 [some (aR 0), some (aI l), some (aI w), some (aI n), none] [] μ := by
        intro k
        induction k with
        | zero =>
          intro n  i0 i1 i2
          refine J.iload_n hG dX6_first_24 rfl rfl ?_
          refine J.bipush hG dX6_first_25 (by decide) (by decide) ?_
          refine J.icmp_gt hG 62 dX6_first_27 rfl (fun h27 => ?_) (fun h27 => absurd h27 (by omega))
          refine J.bipush hG dX6_first_62 (by decide) (by decide) ?_
          refine J.iret hG dX6_first_64 ?_
          rw [hX]; dsimp only
          exact ⟨by rw [if_pos (by omega), ← i2]; rfl, rfl⟩
        | succ k ih =>
          intro n  i0 i1 i2
          rw [fN] at i2
          refine J.iload_n hG dX6_first_24 rfl rfl ?_
          refine J.bipush hG dX6_first_25 (by decide) (by decide) ?_
          refine J.icmp_gt hG 62 dX6_first_27 rfl (fun h27 => absurd h27 (by omega)) (fun h27 => ?_)
          refine J.aload_n hG dX6_first_30 rfl rfl ?_
          refine J.iload_n hG dX6_first_31 rfl rfl ?_
          refine J.iload_n hG dX6_first_32 rfl rfl ?_
          refine J.callV hG (X6_unlawfulScale _ hB _ _ (by omega) (by omega)) ok_X6_unlawfulScale ml_X6_181 rfl rfl rfl rfl (Nat.le_of_ble_eq_true rfl) ⟨Nat.le_of_ble_eq_true rfl, Nat.le_of_ble_eq_true rfl⟩ dX6_first_33 rfl (fun r1 μ1 hp1 => ?_)
          obtain ⟨rfl, rfl⟩ := hp1
          refine J.istore hG dX6_first_36 (Nat.le_of_ble_eq_true rfl) ?_
          refine J.iload hG dX6_first_38 rfl ?_
          refine J.bipush hG dX6_first_40 (by decide) (by decide) ?_
          refine J.icmp_eq hG 56 dX6_first_42 rfl (fun h42 => ?_) (fun h42 => ?_)
          · refine J.iinc hG dX6_first_56 (Nat.le_of_ble_eq_true rfl) rfl (fun _ => (by omega)) ?_
            refine J.goto hG 24 dX6_first_59 rfl ?_
            rw [if_pos h42] at i2
            exact J.drop 4 (ih (n + 1) (by omega) (by omega) i2)
          · refine J.iload_n hG dX6_first_45 rfl rfl ?_
            refine J.if_ne hG 53 dX6_first_46 rfl (fun h46 => ?_) (fun h46 => ?_)
            · refine J.iload hG dX6_first_53 rfl ?_
              refine J.iret hG dX6_first_55 ?_
              rw [hX]; dsimp only
              exact ⟨by rw [if_pos (by omega), ← i2, if_neg h42]; congr 2; (split <;> first | rfl | (exfalso; omega)), rfl⟩
            · refine J.iload_n hG dX6_first_49 rfl rfl ?_
              refine J.goto hG 55 dX6_first_50 rfl ?_
              refine J.iret hG dX6_first_55 ?_
              rw [hX]; dsimp only
              exact ⟨by rw [if_pos (by omega), ← i2, if_neg h42]; congr 2; (split <;> first | rfl | (exfalso; omega)), rfl⟩
      exact lp 61 0 (Int.le_refl _) (by omega) rfl
    · refine J.iconst hG dX6_first_20 (by decide) ?_
      refine J.iret hG dX6_first_21 ?_
      rw [hX]; dsimp only
      exact ⟨by congr 2; try ((repeat' split) <;> first | rfl | (exfalso; omega) | omega), rfl⟩

set_option maxRecDepth 100000 in
set_option maxHeartbeats 4000000 in
theorem X6_bestJump (μ : Mem) (hB : XB μ) (s w : Int) : CT TX md_X6_bestJump [aR 0, aI s, aI w] μ (fun rv μ1 => rv = some (aI (if (0 ≤ s ∧ s < μ 13 0) ∧ (0 ≤ w ∧ w ≤ 1) then (if w = 0 then (xBJ μ s).1 else (xBJ μ s).2) else -1)) ∧ μ = μ1) := by
  refine CT.of (Nat.le_of_ble_eq_true rfl) (by decide) rfl (Nat.le_of_ble_eq_true rfl) (fun X hG hX => ?_)
  have hG : G TX X RX6 cX6_bestJump 7 4 101 (some .int) := hG
  show J TX X 7 0 [some (aR 0), some (aI s), some (aI w), none, none, none, none] [] μ
  have hB2 := hB
  obtain ⟨h1, h2, h3, h4, h5, h6⟩ := hB2
  refine J.aload_n hG dX6_bestJump_0 rfl rfl ?_
  refine J.getR hG ciX6 rfl 1 1 rfl (Nat.le_of_ble_eq_true rfl) rfl fl_X6_19 dX6_bestJump_1 ?_
  refine J.iload_n hG dX6_bestJump_4 rfl rfl ?_
  refine J.callV hG (X1_hasScale _ _) ok_X1_hasScale ml_X6_106 rfl rfl rfl rfl (Nat.le_of_ble_eq_true rfl) ⟨Nat.le_of_ble_eq_true rfl, Nat.le_of_ble_eq_true rfl⟩ dX6_bestJump_5 rfl (fun r1 μ1 hp1 => ?_)
  obtain ⟨rfl, rfl⟩ := hp1
  refine J.ifb_eq hG 20 dX6_bestJump_8 rfl (fun h8 => ?_) (fun h8 => ?_)
  · refine J.iconst hG dX6_bestJump_20 (by decide) ?_
    refine J.iret hG dX6_bestJump_21 ?_
    rw [hX]; dsimp only
    exact ⟨by congr 2; try ((repeat' split) <;> first | rfl | (exfalso; omega) | omega), rfl⟩
  · refine J.iload_n hG dX6_bestJump_11 rfl rfl ?_
    refine J.iconst hG dX6_bestJump_12 (by decide) ?_
    refine J.iconst hG dX6_bestJump_13 (by decide) ?_
    refine J.callS hG (X6_within _ _ _ _) ok_X6_within ml_X6_70 rfl (Nat.le_of_ble_eq_true rfl) ⟨Nat.le_of_ble_eq_true rfl, Nat.le_of_ble_eq_true rfl⟩ dX6_bestJump_14 rfl (fun r1 μ1 hp1 => ?_)
    obtain ⟨rfl, rfl⟩ := hp1
    refine J.ifb_ne hG 22 dX6_bestJump_17 rfl (fun h17 => ?_) (fun h17 => ?_)
    · refine J.iconst hG dX6_bestJump_22 (by decide) ?_
      refine J.istore_n hG dX6_bestJump_23 rfl (Nat.le_of_ble_eq_true rfl) ?_
      have q5 := h5 s (by omega) (by omega)
      refine J.aload_n hG dX6_bestJump_24 rfl rfl ?_
      refine J.iload_n hG dX6_bestJump_25 rfl rfl ?_
      refine J.iconst hG dX6_bestJump_26 (by decide) ?_
      refine J.callV hG (X6_endChangesByJump _ hB _ _ (by omega)) ok_X6_endChangesByJump ml_X6_188 rfl rfl rfl rfl (Nat.le_of_ble_eq_true rfl) ⟨Nat.le_of_ble_eq_true rfl, Nat.le_of_ble_eq_true rfl⟩ dX6_bestJump_27 rfl (fun r1 μ1 hp1 => ?_)
      obtain ⟨rfl, rfl⟩ := hp1
      refine J.istore hG dX6_bestJump_30 (Nat.le_of_ble_eq_true rfl) ?_
      refine J.iconst hG dX6_bestJump_32 (by decide) ?_
      refine J.istore hG dX6_bestJump_33 (Nat.le_of_ble_eq_true rfl) ?_
      have lp : ∀ (k : Nat) (t : Int) (b f : Int), 2 ≤ t → t + k = μ 14 s + 1 → (bj (xEC μ s) k t b f = xBJ μ s) → J TX X 7 35 [some (aR 0), some (aI s), some (aI w), some (aI b), some (aI f), some (aI t), none] [] μ := by
        intro k
        induction k with
        | zero =>
          intro t b f i0 i1 i2
          refine J.iload hG dX6_bestJump_35 rfl ?_
          refine J.aload_n hG dX6_bestJump_37 rfl rfl ?_
          refine J.getR hG ciX6 rfl 1 1 rfl (Nat.le_of_ble_eq_true rfl) rfl fl_X6_19 dX6_bestJump_38 ?_
          refine J.getR hG ciX1 rfl 4 4 rfl (Nat.le_of_ble_eq_true rfl) rfl fl_X6_112 dX6_bestJump_41 ?_
          refine J.iload_n hG dX6_bestJump_44 rfl rfl ?_
          refine J.iald hG rfl (by omega) (by omega) dX6_bestJump_45 ?_
          refine J.icmp_gt hG 78 dX6_bestJump_46 rfl (fun h46 => ?_) (fun h46 => absurd h46 (by omega))
          refine J.iload_n hG dX6_bestJump_78 rfl rfl ?_
          refine J.if_ne hG 86 dX6_bestJump_79 rfl (fun h79 => ?_) (fun h79 => ?_)
          · refine J.iload hG dX6_bestJump_86 rfl ?_
            refine J.iret hG dX6_bestJump_88 ?_
            rw [hX]; dsimp only
            exact ⟨by rw [if_pos (by omega), ← i2]; congr 2; (split <;> first | rfl | (exfalso; omega)), rfl⟩
          · refine J.iload_n hG dX6_bestJump_82 rfl rfl ?_
            refine J.goto hG 88 dX6_bestJump_83 rfl ?_
            refine J.iret hG dX6_bestJump_88 ?_
            rw [hX]; dsimp only
            exact ⟨by rw [if_pos (by omega), ← i2]; congr 2; (split <;> first | rfl | (exfalso; omega)), rfl⟩
        | succ k ih =>
          intro t b f i0 i1 i2
          rw [bj] at i2
          refine J.iload hG dX6_bestJump_35 rfl ?_
          refine J.aload_n hG dX6_bestJump_37 rfl rfl ?_
          refine J.getR hG ciX6 rfl 1 1 rfl (Nat.le_of_ble_eq_true rfl) rfl fl_X6_19 dX6_bestJump_38 ?_
          refine J.getR hG ciX1 rfl 4 4 rfl (Nat.le_of_ble_eq_true rfl) rfl fl_X6_112 dX6_bestJump_41 ?_
          refine J.iload_n hG dX6_bestJump_44 rfl rfl ?_
          refine J.iald hG rfl (by omega) (by omega) dX6_bestJump_45 ?_
          refine J.icmp_gt hG 78 dX6_bestJump_46 rfl (fun h46 => absurd h46 (by omega)) (fun h46 => ?_)
          refine J.aload_n hG dX6_bestJump_49 rfl rfl ?_
          refine J.iload_n hG dX6_bestJump_50 rfl rfl ?_
          refine J.iload hG dX6_bestJump_51 rfl ?_
          refine J.callV hG (X6_endChangesByJump _ hB _ _ (by omega)) ok_X6_endChangesByJump ml_X6_188 rfl rfl rfl rfl (Nat.le_of_ble_eq_true rfl) ⟨Nat.le_of_ble_eq_true rfl, Nat.le_of_ble_eq_true rfl⟩ dX6_bestJump_53 rfl (fun r1 μ1 hp1 => ?_)
          obtain ⟨rfl, rfl⟩ := hp1
          refine J.istore hG dX6_bestJump_56 (Nat.le_of_ble_eq_true rfl) ?_
          refine J.iload hG dX6_bestJump_58 rfl ?_
          refine J.iload hG dX6_bestJump_60 rfl ?_
          refine J.icmp_ge hG 72 dX6_bestJump_62 rfl (fun h62 => ?_) (fun h62 => ?_)
          · refine J.iinc hG dX6_bestJump_72 (Nat.le_of_ble_eq_true rfl) rfl (fun _ => (by omega)) ?_
            refine J.goto hG 35 dX6_bestJump_75 rfl ?_
            first
              | (rw [if_neg (by omega)] at i2; exact J.drop 6 (ih (t + 1) _ _ (by omega) (by omega) i2))
              | (rw [if_pos (by omega)] at i2; exact J.drop 6 (ih (t + 1) _ _ (by omega) (by omega) i2))
          · refine J.iload hG dX6_bestJump_65 rfl ?_
            refine J.istore_n hG dX6_bestJump_67 rfl (Nat.le_of_ble_eq_true rfl) ?_
            refine J.iload hG dX6_bestJump_68 rfl ?_
            refine J.istore hG dX6_bestJump_70 (Nat.le_of_ble_eq_true rfl) ?_
            refine J.iinc hG dX6_bestJump_72 (Nat.le_of_ble_eq_true rfl) rfl (fun _ => (by omega)) ?_
            refine J.goto hG 35 dX6_bestJump_75 rfl ?_
            first
              | (rw [if_neg (by omega)] at i2; exact J.drop 6 (ih (t + 1) _ _ (by omega) (by omega) i2))
              | (rw [if_pos (by omega)] at i2; exact J.drop 6 (ih (t + 1) _ _ (by omega) (by omega) i2))
      exact lp (μ 14 s - 1).toNat 2 1 _ (Int.le_refl _) (by omega) rfl
    · refine J.iconst hG dX6_bestJump_20 (by decide) ?_
      refine J.iret hG dX6_bestJump_21 ?_
      rw [hX]; dsimp only
      exact ⟨by congr 2; try ((repeat' split) <;> first | rfl | (exfalso; omega) | omega), rfl⟩

set_option maxRecDepth 100000 in
set_option maxHeartbeats 4000000 in
theorem X6_clash (μ : Mem) (hB : XB μ) : CT TX md_X6_clash [aR 0] μ (fun rv μ1 => rv = some (aI (xClash μ)) ∧ μ = μ1) := by
  refine CT.of (Nat.le_of_ble_eq_true rfl) (by decide) rfl (Nat.le_of_ble_eq_true rfl) (fun X hG hX => ?_)
  have hG : G TX X RX6 cX6_clash 3 3 71 (some .int) := hG
  show J TX X 3 0 [some (aR 0), none, none] [] μ
  have hB2 := hB
  obtain ⟨h1, h2, h3, h4, h5, h6⟩ := hB2
  have lp : ∀ (k : Nat) (a : Int), 0 ≤ a → a + k = μ 13 0 → (fc (fun a => fs3 (fun b => if xOp μ a b = -9 then 0 else 3) (μ 13 0 - (a + 1)).toNat (a + 1)) k a = xClash μ) → J TX X 3 2 [some (aR 0), some (aI a), none] [] μ := by
    intro k
    induction k with
    | zero =>
      intro a  i0 i1 i2
      refine J.iload_n hG dX6_clash_2 rfl rfl ?_
      refine J.aload_n hG dX6_clash_3 rfl rfl ?_
      refine J.getR hG ciX6 rfl 1 1 rfl (Nat.le_of_ble_eq_true rfl) rfl fl_X6_19 dX6_clash_4 ?_
      refine J.getI hG ciX1 rfl 0 0 rfl (Nat.le_of_ble_eq_true rfl) rfl fl_X6_222 dX6_clash_7 ?_
      refine J.icmp_ge hG 56 dX6_clash_10 rfl (fun h10 => ?_) (fun h10 => absurd h10 (by omega))
      refine J.bipush hG dX6_clash_56 (by decide) (by decide) ?_
      refine J.iret hG dX6_clash_58 ?_
      rw [hX]; dsimp only
      exact ⟨by rw [← i2]; rfl, rfl⟩
    | succ k ih =>
      intro a  i0 i1 i2
      rw [fc] at i2
      have ih0 := ih
      clear ih
      have lp2 : ∀ (k : Nat) (b : Int), a + 1 ≤ b → b + k = μ 13 0 → (fs3 (fun b => if xOp μ a b = -9 then 0 else 3) k b = fs3 (fun b => if xOp μ a b = -9 then 0 else 3) (μ 13 0 - (a + 1)).toNat (a + 1)) → J TX X 3 17 [some (aR 0), some (aI a), some (aI b)] [] μ := by
        intro k
        induction k with
        | zero =>
          intro b  i8 i9 j2
          refine J.iload_n hG dX6_clash_17 rfl rfl ?_
          refine J.aload_n hG dX6_clash_18 rfl rfl ?_
          refine J.getR hG ciX6 rfl 1 1 rfl (Nat.le_of_ble_eq_true rfl) rfl fl_X6_19 dX6_clash_19 ?_
          refine J.getI hG ciX1 rfl 0 0 rfl (Nat.le_of_ble_eq_true rfl) rfl fl_X6_222 dX6_clash_22 ?_
          refine J.icmp_ge hG 50 dX6_clash_25 rfl (fun h25 => ?_) (fun h25 => absurd h25 (by omega))
          refine J.iinc hG dX6_clash_50 (Nat.le_of_ble_eq_true rfl) rfl (fun _ => (by omega)) ?_
          refine J.goto hG 2 dX6_clash_53 rfl ?_
          rw [← j2, fs3, if_pos rfl] at i2
          exact J.drop 2 (ih0 (a + 1) (by omega) (by omega) i2)
        | succ k ih =>
          intro b  i8 i9 j2
          rw [fs3] at j2
          refine J.iload_n hG dX6_clash_17 rfl rfl ?_
          refine J.aload_n hG dX6_clash_18 rfl rfl ?_
          refine J.getR hG ciX6 rfl 1 1 rfl (Nat.le_of_ble_eq_true rfl) rfl fl_X6_19 dX6_clash_19 ?_
          refine J.getI hG ciX1 rfl 0 0 rfl (Nat.le_of_ble_eq_true rfl) rfl fl_X6_222 dX6_clash_22 ?_
          refine J.icmp_ge hG 50 dX6_clash_25 rfl (fun h25 => absurd h25 (by omega)) (fun h25 => ?_)
          refine J.aload_n hG dX6_clash_28 rfl rfl ?_
          refine J.iload_n hG dX6_clash_29 rfl rfl ?_
          refine J.iload_n hG dX6_clash_30 rfl rfl ?_
          refine J.callV hG (X6_areOpposed _ hB _ _ (by omega) (by omega)) ok_X6_areOpposed ml_X6_225 rfl rfl rfl rfl (Nat.le_of_ble_eq_true rfl) ⟨Nat.le_of_ble_eq_true rfl, Nat.le_of_ble_eq_true rfl⟩ dX6_clash_31 rfl (fun r1 μ1 hp1 => ?_)
          obtain ⟨rfl, rfl⟩ := hp1
          refine J.ifb_eq hG 44 dX6_clash_34 rfl (fun h34 => ?_) (fun h34 => ?_)
          · refine J.iinc hG dX6_clash_44 (Nat.le_of_ble_eq_true rfl) rfl (fun _ => (by omega)) ?_
            refine J.goto hG 17 dX6_clash_47 rfl ?_
            have e : ¬ (if xOp μ a b = -9 then (0 : Int) else 3) = 3 := by rw [if_pos (by omega)]; omega
            rw [if_neg e] at j2
            exact ih (b + 1) (by omega) (by omega) j2
          · refine J.bipush hG dX6_clash_37 (by decide) (by decide) ?_
            refine J.iload_n hG dX6_clash_39 rfl rfl ?_
            refine J.imul hG dX6_clash_40 (fun _ _ => (by omega)) ?_
            refine J.iload_n hG dX6_clash_41 rfl rfl ?_
            refine J.iadd hG dX6_clash_42 (fun _ _ => (by omega)) ?_
            refine J.iret hG dX6_clash_43 ?_
            rw [hX]; dsimp only
            rw [if_neg h34, if_pos rfl] at j2
            rw [← j2, if_neg (by omega)] at i2
            exact ⟨by rw [← i2], rfl⟩
      refine J.iload_n hG dX6_clash_2 rfl rfl ?_
      refine J.aload_n hG dX6_clash_3 rfl rfl ?_
      refine J.getR hG ciX6 rfl 1 1 rfl (Nat.le_of_ble_eq_true rfl) rfl fl_X6_19 dX6_clash_4 ?_
      refine J.getI hG ciX1 rfl 0 0 rfl (Nat.le_of_ble_eq_true rfl) rfl fl_X6_222 dX6_clash_7 ?_
      refine J.icmp_ge hG 56 dX6_clash_10 rfl (fun h10 => absurd h10 (by omega)) (fun h10 => ?_)
      refine J.iload_n hG dX6_clash_13 rfl rfl ?_
      refine J.iconst hG dX6_clash_14 (by decide) ?_
      refine J.iadd hG dX6_clash_15 (fun _ _ => (by omega)) ?_
      refine J.istore_n hG dX6_clash_16 rfl (Nat.le_of_ble_eq_true rfl) ?_
      exact lp2 (μ 13 0 - (a + 1)).toNat (a + 1) (Int.le_refl _) (by omega) rfl
  refine J.iconst hG dX6_clash_0 (by decide) ?_
  refine J.istore_n hG dX6_clash_1 rfl (Nat.le_of_ble_eq_true rfl) ?_
  exact lp (μ 13 0).toNat 0 (Int.le_refl _) (by omega) rfl

theorem J.ldcw {T : List Sh} {X : Cx} {own : String} {cc : ByteArray} {nL fr lo : Nat} {ret : Option FieldType} {pc : Nat} {L : List (Option AV)} {st : List AV} {μ : Mem} (hG : G T X own cc nL fr lo ret) {n : Int} {v : Int32} {idx : Nat} (dg : decode cc pc = .ok (.ldc_w idx, 3)) (hl : Cond.constant own idx v ∈ BIG) (hv : v = Int32.ofInt n) (ho : okI n) (kk : J T X nL (pc + 3) L (aI n :: st) μ) : J T X nL pc L st μ := by
  obtain ⟨p, l, e, R, s, m, args, below, meth, c, D, ad, cA, A, Post⟩ := X
  obtain ⟨hx, hb, hml, hown, hts, hK, hD, hA, hR, hret, hlocks, hT, hN, had⟩ := hG
  intro H locs ls hP hS hL oL oS oM
  subst hv
  exact lv_ldcw hx hb hown (hts _ hl) dg (kk H locs ls hP hS hL oL (List.forall_mem_cons.mpr ⟨ho, oS⟩) oM)
set_option maxRecDepth 100000 in
set_option maxHeartbeats 4000000 in
theorem J6_bitCount (μ : Mem) (x : Int) (hx : 0 ≤ x ∧ x ≤ 15) : CT TX md_J6_bitCount [aI x] μ (fun rv μ1 => rv = some (aI (pc4 x)) ∧ μ = μ1) := by
  refine CT.of (Nat.le_of_ble_eq_true rfl) (by decide) rfl (Nat.le_of_ble_eq_true rfl) (fun X hG hX => ?_)
  have hG : G TX X RJ6 cJ6_bitCount_0f7a4 1 0 0 (some .int) := hG
  show J TX X 1 0 [some (aI x)] [] μ
  rcases (show x = 0 ∨ x = 1 ∨ x = 2 ∨ x = 3 ∨ x = 4 ∨ x = 5 ∨ x = 6 ∨ x = 7 ∨ x = 8 ∨ x = 9 ∨ x = 10 ∨ x = 11 ∨ x = 12 ∨ x = 13 ∨ x = 14 ∨ x = 15 by omega) with rfl | rfl | rfl | rfl | rfl | rfl | rfl | rfl | rfl | rfl | rfl | rfl | rfl | rfl | rfl | rfl
  · refine J.iload_n hG dJ6_bitCount_0f7a4_0 rfl rfl ?_
    refine J.iload_n hG dJ6_bitCount_0f7a4_1 rfl rfl ?_
    refine J.iconst hG dJ6_bitCount_0f7a4_2 (by decide) ?_
    refine J.iushr hG (0) dJ6_bitCount_0f7a4_3 (fun _ _ => by decide) ?_
    refine J.ldcw hG (n := 1431655765) dJ6_bitCount_0f7a4_4 ct_J6_265 (by decide) (by decide) ?_
    refine J.iand hG (0) dJ6_bitCount_0f7a4_7 (fun _ _ => by decide) ?_
    refine J.isub hG dJ6_bitCount_0f7a4_8 (fun _ _ => by decide) ?_
    refine J.istore_n hG dJ6_bitCount_0f7a4_9 rfl (Nat.le_of_ble_eq_true rfl) ?_
    show J TX X 1 10 [some (aI (0))] [] μ
    refine J.iload_n hG dJ6_bitCount_0f7a4_10 rfl rfl ?_
    refine J.ldcw hG (n := 858993459) dJ6_bitCount_0f7a4_11 ct_J6_266 (by decide) (by decide) ?_
    refine J.iand hG (0) dJ6_bitCount_0f7a4_14 (fun _ _ => by decide) ?_
    refine J.iload_n hG dJ6_bitCount_0f7a4_15 rfl rfl ?_
    refine J.iconst hG dJ6_bitCount_0f7a4_16 (by decide) ?_
    refine J.iushr hG (0) dJ6_bitCount_0f7a4_17 (fun _ _ => by decide) ?_
    refine J.ldcw hG (n := 858993459) dJ6_bitCount_0f7a4_18 ct_J6_266 (by decide) (by decide) ?_
    refine J.iand hG (0) dJ6_bitCount_0f7a4_21 (fun _ _ => by decide) ?_
    refine J.iadd hG dJ6_bitCount_0f7a4_22 (fun _ _ => by decide) ?_
    refine J.istore_n hG dJ6_bitCount_0f7a4_23 rfl (Nat.le_of_ble_eq_true rfl) ?_
    show J TX X 1 24 [some (aI (0))] [] μ
    refine J.iload_n hG dJ6_bitCount_0f7a4_24 rfl rfl ?_
    refine J.iload_n hG dJ6_bitCount_0f7a4_25 rfl rfl ?_
    refine J.iconst hG dJ6_bitCount_0f7a4_26 (by decide) ?_
    refine J.iushr hG (0) dJ6_bitCount_0f7a4_27 (fun _ _ => by decide) ?_
    refine J.iadd hG dJ6_bitCount_0f7a4_28 (fun _ _ => by decide) ?_
    refine J.ldcw hG (n := 252645135) dJ6_bitCount_0f7a4_29 ct_J6_267 (by decide) (by decide) ?_
    refine J.iand hG (0) dJ6_bitCount_0f7a4_32 (fun _ _ => by decide) ?_
    refine J.istore_n hG dJ6_bitCount_0f7a4_33 rfl (Nat.le_of_ble_eq_true rfl) ?_
    show J TX X 1 34 [some (aI (0))] [] μ
    refine J.iload_n hG dJ6_bitCount_0f7a4_34 rfl rfl ?_
    refine J.iload_n hG dJ6_bitCount_0f7a4_35 rfl rfl ?_
    refine J.bipush hG dJ6_bitCount_0f7a4_36 (by decide) (by decide) ?_
    refine J.iushr hG (0) dJ6_bitCount_0f7a4_38 (fun _ _ => by decide) ?_
    refine J.iadd hG dJ6_bitCount_0f7a4_39 (fun _ _ => by decide) ?_
    refine J.istore_n hG dJ6_bitCount_0f7a4_40 rfl (Nat.le_of_ble_eq_true rfl) ?_
    show J TX X 1 41 [some (aI (0))] [] μ
    refine J.iload_n hG dJ6_bitCount_0f7a4_41 rfl rfl ?_
    refine J.iload_n hG dJ6_bitCount_0f7a4_42 rfl rfl ?_
    refine J.bipush hG dJ6_bitCount_0f7a4_43 (by decide) (by decide) ?_
    refine J.iushr hG (0) dJ6_bitCount_0f7a4_45 (fun _ _ => by decide) ?_
    refine J.iadd hG dJ6_bitCount_0f7a4_46 (fun _ _ => by decide) ?_
    refine J.istore_n hG dJ6_bitCount_0f7a4_47 rfl (Nat.le_of_ble_eq_true rfl) ?_
    show J TX X 1 48 [some (aI (0))] [] μ
    refine J.iload_n hG dJ6_bitCount_0f7a4_48 rfl rfl ?_
    refine J.bipush hG dJ6_bitCount_0f7a4_49 (by decide) (by decide) ?_
    refine J.iand hG (0) dJ6_bitCount_0f7a4_51 (fun _ _ => by decide) ?_
    refine J.iret hG dJ6_bitCount_0f7a4_52 ?_
    rw [hX]
    exact ⟨rfl, rfl⟩
  · refine J.iload_n hG dJ6_bitCount_0f7a4_0 rfl rfl ?_
    refine J.iload_n hG dJ6_bitCount_0f7a4_1 rfl rfl ?_
    refine J.iconst hG dJ6_bitCount_0f7a4_2 (by decide) ?_
    refine J.iushr hG (0) dJ6_bitCount_0f7a4_3 (fun _ _ => by decide) ?_
    refine J.ldcw hG (n := 1431655765) dJ6_bitCount_0f7a4_4 ct_J6_265 (by decide) (by decide) ?_
    refine J.iand hG (0) dJ6_bitCount_0f7a4_7 (fun _ _ => by decide) ?_
    refine J.isub hG dJ6_bitCount_0f7a4_8 (fun _ _ => by decide) ?_
    refine J.istore_n hG dJ6_bitCount_0f7a4_9 rfl (Nat.le_of_ble_eq_true rfl) ?_
    show J TX X 1 10 [some (aI (1))] [] μ
    refine J.iload_n hG dJ6_bitCount_0f7a4_10 rfl rfl ?_
    refine J.ldcw hG (n := 858993459) dJ6_bitCount_0f7a4_11 ct_J6_266 (by decide) (by decide) ?_
    refine J.iand hG (1) dJ6_bitCount_0f7a4_14 (fun _ _ => by decide) ?_
    refine J.iload_n hG dJ6_bitCount_0f7a4_15 rfl rfl ?_
    refine J.iconst hG dJ6_bitCount_0f7a4_16 (by decide) ?_
    refine J.iushr hG (0) dJ6_bitCount_0f7a4_17 (fun _ _ => by decide) ?_
    refine J.ldcw hG (n := 858993459) dJ6_bitCount_0f7a4_18 ct_J6_266 (by decide) (by decide) ?_
    refine J.iand hG (0) dJ6_bitCount_0f7a4_21 (fun _ _ => by decide) ?_
    refine J.iadd hG dJ6_bitCount_0f7a4_22 (fun _ _ => by decide) ?_
    refine J.istore_n hG dJ6_bitCount_0f7a4_23 rfl (Nat.le_of_ble_eq_true rfl) ?_
    show J TX X 1 24 [some (aI (1))] [] μ
    refine J.iload_n hG dJ6_bitCount_0f7a4_24 rfl rfl ?_
    refine J.iload_n hG dJ6_bitCount_0f7a4_25 rfl rfl ?_
    refine J.iconst hG dJ6_bitCount_0f7a4_26 (by decide) ?_
    refine J.iushr hG (0) dJ6_bitCount_0f7a4_27 (fun _ _ => by decide) ?_
    refine J.iadd hG dJ6_bitCount_0f7a4_28 (fun _ _ => by decide) ?_
    refine J.ldcw hG (n := 252645135) dJ6_bitCount_0f7a4_29 ct_J6_267 (by decide) (by decide) ?_
    refine J.iand hG (1) dJ6_bitCount_0f7a4_32 (fun _ _ => by decide) ?_
    refine J.istore_n hG dJ6_bitCount_0f7a4_33 rfl (Nat.le_of_ble_eq_true rfl) ?_
    show J TX X 1 34 [some (aI (1))] [] μ
    refine J.iload_n hG dJ6_bitCount_0f7a4_34 rfl rfl ?_
    refine J.iload_n hG dJ6_bitCount_0f7a4_35 rfl rfl ?_
    refine J.bipush hG dJ6_bitCount_0f7a4_36 (by decide) (by decide) ?_
    refine J.iushr hG (0) dJ6_bitCount_0f7a4_38 (fun _ _ => by decide) ?_
    refine J.iadd hG dJ6_bitCount_0f7a4_39 (fun _ _ => by decide) ?_
    refine J.istore_n hG dJ6_bitCount_0f7a4_40 rfl (Nat.le_of_ble_eq_true rfl) ?_
    show J TX X 1 41 [some (aI (1))] [] μ
    refine J.iload_n hG dJ6_bitCount_0f7a4_41 rfl rfl ?_
    refine J.iload_n hG dJ6_bitCount_0f7a4_42 rfl rfl ?_
    refine J.bipush hG dJ6_bitCount_0f7a4_43 (by decide) (by decide) ?_
    refine J.iushr hG (0) dJ6_bitCount_0f7a4_45 (fun _ _ => by decide) ?_
    refine J.iadd hG dJ6_bitCount_0f7a4_46 (fun _ _ => by decide) ?_
    refine J.istore_n hG dJ6_bitCount_0f7a4_47 rfl (Nat.le_of_ble_eq_true rfl) ?_
    show J TX X 1 48 [some (aI (1))] [] μ
    refine J.iload_n hG dJ6_bitCount_0f7a4_48 rfl rfl ?_
    refine J.bipush hG dJ6_bitCount_0f7a4_49 (by decide) (by decide) ?_
    refine J.iand hG (1) dJ6_bitCount_0f7a4_51 (fun _ _ => by decide) ?_
    refine J.iret hG dJ6_bitCount_0f7a4_52 ?_
    rw [hX]
    exact ⟨rfl, rfl⟩
  · refine J.iload_n hG dJ6_bitCount_0f7a4_0 rfl rfl ?_
    refine J.iload_n hG dJ6_bitCount_0f7a4_1 rfl rfl ?_
    refine J.iconst hG dJ6_bitCount_0f7a4_2 (by decide) ?_
    refine J.iushr hG (1) dJ6_bitCount_0f7a4_3 (fun _ _ => by decide) ?_
    refine J.ldcw hG (n := 1431655765) dJ6_bitCount_0f7a4_4 ct_J6_265 (by decide) (by decide) ?_
    refine J.iand hG (1) dJ6_bitCount_0f7a4_7 (fun _ _ => by decide) ?_
    refine J.isub hG dJ6_bitCount_0f7a4_8 (fun _ _ => by decide) ?_
    refine J.istore_n hG dJ6_bitCount_0f7a4_9 rfl (Nat.le_of_ble_eq_true rfl) ?_
    show J TX X 1 10 [some (aI (1))] [] μ
    refine J.iload_n hG dJ6_bitCount_0f7a4_10 rfl rfl ?_
    refine J.ldcw hG (n := 858993459) dJ6_bitCount_0f7a4_11 ct_J6_266 (by decide) (by decide) ?_
    refine J.iand hG (1) dJ6_bitCount_0f7a4_14 (fun _ _ => by decide) ?_
    refine J.iload_n hG dJ6_bitCount_0f7a4_15 rfl rfl ?_
    refine J.iconst hG dJ6_bitCount_0f7a4_16 (by decide) ?_
    refine J.iushr hG (0) dJ6_bitCount_0f7a4_17 (fun _ _ => by decide) ?_
    refine J.ldcw hG (n := 858993459) dJ6_bitCount_0f7a4_18 ct_J6_266 (by decide) (by decide) ?_
    refine J.iand hG (0) dJ6_bitCount_0f7a4_21 (fun _ _ => by decide) ?_
    refine J.iadd hG dJ6_bitCount_0f7a4_22 (fun _ _ => by decide) ?_
    refine J.istore_n hG dJ6_bitCount_0f7a4_23 rfl (Nat.le_of_ble_eq_true rfl) ?_
    show J TX X 1 24 [some (aI (1))] [] μ
    refine J.iload_n hG dJ6_bitCount_0f7a4_24 rfl rfl ?_
    refine J.iload_n hG dJ6_bitCount_0f7a4_25 rfl rfl ?_
    refine J.iconst hG dJ6_bitCount_0f7a4_26 (by decide) ?_
    refine J.iushr hG (0) dJ6_bitCount_0f7a4_27 (fun _ _ => by decide) ?_
    refine J.iadd hG dJ6_bitCount_0f7a4_28 (fun _ _ => by decide) ?_
    refine J.ldcw hG (n := 252645135) dJ6_bitCount_0f7a4_29 ct_J6_267 (by decide) (by decide) ?_
    refine J.iand hG (1) dJ6_bitCount_0f7a4_32 (fun _ _ => by decide) ?_
    refine J.istore_n hG dJ6_bitCount_0f7a4_33 rfl (Nat.le_of_ble_eq_true rfl) ?_
    show J TX X 1 34 [some (aI (1))] [] μ
    refine J.iload_n hG dJ6_bitCount_0f7a4_34 rfl rfl ?_
    refine J.iload_n hG dJ6_bitCount_0f7a4_35 rfl rfl ?_
    refine J.bipush hG dJ6_bitCount_0f7a4_36 (by decide) (by decide) ?_
    refine J.iushr hG (0) dJ6_bitCount_0f7a4_38 (fun _ _ => by decide) ?_
    refine J.iadd hG dJ6_bitCount_0f7a4_39 (fun _ _ => by decide) ?_
    refine J.istore_n hG dJ6_bitCount_0f7a4_40 rfl (Nat.le_of_ble_eq_true rfl) ?_
    show J TX X 1 41 [some (aI (1))] [] μ
    refine J.iload_n hG dJ6_bitCount_0f7a4_41 rfl rfl ?_
    refine J.iload_n hG dJ6_bitCount_0f7a4_42 rfl rfl ?_
    refine J.bipush hG dJ6_bitCount_0f7a4_43 (by decide) (by decide) ?_
    refine J.iushr hG (0) dJ6_bitCount_0f7a4_45 (fun _ _ => by decide) ?_
    refine J.iadd hG dJ6_bitCount_0f7a4_46 (fun _ _ => by decide) ?_
    refine J.istore_n hG dJ6_bitCount_0f7a4_47 rfl (Nat.le_of_ble_eq_true rfl) ?_
    show J TX X 1 48 [some (aI (1))] [] μ
    refine J.iload_n hG dJ6_bitCount_0f7a4_48 rfl rfl ?_
    refine J.bipush hG dJ6_bitCount_0f7a4_49 (by decide) (by decide) ?_
    refine J.iand hG (1) dJ6_bitCount_0f7a4_51 (fun _ _ => by decide) ?_
    refine J.iret hG dJ6_bitCount_0f7a4_52 ?_
    rw [hX]
    exact ⟨rfl, rfl⟩
  · refine J.iload_n hG dJ6_bitCount_0f7a4_0 rfl rfl ?_
    refine J.iload_n hG dJ6_bitCount_0f7a4_1 rfl rfl ?_
    refine J.iconst hG dJ6_bitCount_0f7a4_2 (by decide) ?_
    refine J.iushr hG (1) dJ6_bitCount_0f7a4_3 (fun _ _ => by decide) ?_
    refine J.ldcw hG (n := 1431655765) dJ6_bitCount_0f7a4_4 ct_J6_265 (by decide) (by decide) ?_
    refine J.iand hG (1) dJ6_bitCount_0f7a4_7 (fun _ _ => by decide) ?_
    refine J.isub hG dJ6_bitCount_0f7a4_8 (fun _ _ => by decide) ?_
    refine J.istore_n hG dJ6_bitCount_0f7a4_9 rfl (Nat.le_of_ble_eq_true rfl) ?_
    show J TX X 1 10 [some (aI (2))] [] μ
    refine J.iload_n hG dJ6_bitCount_0f7a4_10 rfl rfl ?_
    refine J.ldcw hG (n := 858993459) dJ6_bitCount_0f7a4_11 ct_J6_266 (by decide) (by decide) ?_
    refine J.iand hG (2) dJ6_bitCount_0f7a4_14 (fun _ _ => by decide) ?_
    refine J.iload_n hG dJ6_bitCount_0f7a4_15 rfl rfl ?_
    refine J.iconst hG dJ6_bitCount_0f7a4_16 (by decide) ?_
    refine J.iushr hG (0) dJ6_bitCount_0f7a4_17 (fun _ _ => by decide) ?_
    refine J.ldcw hG (n := 858993459) dJ6_bitCount_0f7a4_18 ct_J6_266 (by decide) (by decide) ?_
    refine J.iand hG (0) dJ6_bitCount_0f7a4_21 (fun _ _ => by decide) ?_
    refine J.iadd hG dJ6_bitCount_0f7a4_22 (fun _ _ => by decide) ?_
    refine J.istore_n hG dJ6_bitCount_0f7a4_23 rfl (Nat.le_of_ble_eq_true rfl) ?_
    show J TX X 1 24 [some (aI (2))] [] μ
    refine J.iload_n hG dJ6_bitCount_0f7a4_24 rfl rfl ?_
    refine J.iload_n hG dJ6_bitCount_0f7a4_25 rfl rfl ?_
    refine J.iconst hG dJ6_bitCount_0f7a4_26 (by decide) ?_
    refine J.iushr hG (0) dJ6_bitCount_0f7a4_27 (fun _ _ => by decide) ?_
    refine J.iadd hG dJ6_bitCount_0f7a4_28 (fun _ _ => by decide) ?_
    refine J.ldcw hG (n := 252645135) dJ6_bitCount_0f7a4_29 ct_J6_267 (by decide) (by decide) ?_
    refine J.iand hG (2) dJ6_bitCount_0f7a4_32 (fun _ _ => by decide) ?_
    refine J.istore_n hG dJ6_bitCount_0f7a4_33 rfl (Nat.le_of_ble_eq_true rfl) ?_
    show J TX X 1 34 [some (aI (2))] [] μ
    refine J.iload_n hG dJ6_bitCount_0f7a4_34 rfl rfl ?_
    refine J.iload_n hG dJ6_bitCount_0f7a4_35 rfl rfl ?_
    refine J.bipush hG dJ6_bitCount_0f7a4_36 (by decide) (by decide) ?_
    refine J.iushr hG (0) dJ6_bitCount_0f7a4_38 (fun _ _ => by decide) ?_
    refine J.iadd hG dJ6_bitCount_0f7a4_39 (fun _ _ => by decide) ?_
    refine J.istore_n hG dJ6_bitCount_0f7a4_40 rfl (Nat.le_of_ble_eq_true rfl) ?_
    show J TX X 1 41 [some (aI (2))] [] μ
    refine J.iload_n hG dJ6_bitCount_0f7a4_41 rfl rfl ?_
    refine J.iload_n hG dJ6_bitCount_0f7a4_42 rfl rfl ?_
    refine J.bipush hG dJ6_bitCount_0f7a4_43 (by decide) (by decide) ?_
    refine J.iushr hG (0) dJ6_bitCount_0f7a4_45 (fun _ _ => by decide) ?_
    refine J.iadd hG dJ6_bitCount_0f7a4_46 (fun _ _ => by decide) ?_
    refine J.istore_n hG dJ6_bitCount_0f7a4_47 rfl (Nat.le_of_ble_eq_true rfl) ?_
    show J TX X 1 48 [some (aI (2))] [] μ
    refine J.iload_n hG dJ6_bitCount_0f7a4_48 rfl rfl ?_
    refine J.bipush hG dJ6_bitCount_0f7a4_49 (by decide) (by decide) ?_
    refine J.iand hG (2) dJ6_bitCount_0f7a4_51 (fun _ _ => by decide) ?_
    refine J.iret hG dJ6_bitCount_0f7a4_52 ?_
    rw [hX]
    exact ⟨rfl, rfl⟩
  · refine J.iload_n hG dJ6_bitCount_0f7a4_0 rfl rfl ?_
    refine J.iload_n hG dJ6_bitCount_0f7a4_1 rfl rfl ?_
    refine J.iconst hG dJ6_bitCount_0f7a4_2 (by decide) ?_
    refine J.iushr hG (2) dJ6_bitCount_0f7a4_3 (fun _ _ => by decide) ?_
    refine J.ldcw hG (n := 1431655765) dJ6_bitCount_0f7a4_4 ct_J6_265 (by decide) (by decide) ?_
    refine J.iand hG (0) dJ6_bitCount_0f7a4_7 (fun _ _ => by decide) ?_
    refine J.isub hG dJ6_bitCount_0f7a4_8 (fun _ _ => by decide) ?_
    refine J.istore_n hG dJ6_bitCount_0f7a4_9 rfl (Nat.le_of_ble_eq_true rfl) ?_
    show J TX X 1 10 [some (aI (4))] [] μ
    refine J.iload_n hG dJ6_bitCount_0f7a4_10 rfl rfl ?_
    refine J.ldcw hG (n := 858993459) dJ6_bitCount_0f7a4_11 ct_J6_266 (by decide) (by decide) ?_
    refine J.iand hG (0) dJ6_bitCount_0f7a4_14 (fun _ _ => by decide) ?_
    refine J.iload_n hG dJ6_bitCount_0f7a4_15 rfl rfl ?_
    refine J.iconst hG dJ6_bitCount_0f7a4_16 (by decide) ?_
    refine J.iushr hG (1) dJ6_bitCount_0f7a4_17 (fun _ _ => by decide) ?_
    refine J.ldcw hG (n := 858993459) dJ6_bitCount_0f7a4_18 ct_J6_266 (by decide) (by decide) ?_
    refine J.iand hG (1) dJ6_bitCount_0f7a4_21 (fun _ _ => by decide) ?_
    refine J.iadd hG dJ6_bitCount_0f7a4_22 (fun _ _ => by decide) ?_
    refine J.istore_n hG dJ6_bitCount_0f7a4_23 rfl (Nat.le_of_ble_eq_true rfl) ?_
    show J TX X 1 24 [some (aI (1))] [] μ
    refine J.iload_n hG dJ6_bitCount_0f7a4_24 rfl rfl ?_
    refine J.iload_n hG dJ6_bitCount_0f7a4_25 rfl rfl ?_
    refine J.iconst hG dJ6_bitCount_0f7a4_26 (by decide) ?_
    refine J.iushr hG (0) dJ6_bitCount_0f7a4_27 (fun _ _ => by decide) ?_
    refine J.iadd hG dJ6_bitCount_0f7a4_28 (fun _ _ => by decide) ?_
    refine J.ldcw hG (n := 252645135) dJ6_bitCount_0f7a4_29 ct_J6_267 (by decide) (by decide) ?_
    refine J.iand hG (1) dJ6_bitCount_0f7a4_32 (fun _ _ => by decide) ?_
    refine J.istore_n hG dJ6_bitCount_0f7a4_33 rfl (Nat.le_of_ble_eq_true rfl) ?_
    show J TX X 1 34 [some (aI (1))] [] μ
    refine J.iload_n hG dJ6_bitCount_0f7a4_34 rfl rfl ?_
    refine J.iload_n hG dJ6_bitCount_0f7a4_35 rfl rfl ?_
    refine J.bipush hG dJ6_bitCount_0f7a4_36 (by decide) (by decide) ?_
    refine J.iushr hG (0) dJ6_bitCount_0f7a4_38 (fun _ _ => by decide) ?_
    refine J.iadd hG dJ6_bitCount_0f7a4_39 (fun _ _ => by decide) ?_
    refine J.istore_n hG dJ6_bitCount_0f7a4_40 rfl (Nat.le_of_ble_eq_true rfl) ?_
    show J TX X 1 41 [some (aI (1))] [] μ
    refine J.iload_n hG dJ6_bitCount_0f7a4_41 rfl rfl ?_
    refine J.iload_n hG dJ6_bitCount_0f7a4_42 rfl rfl ?_
    refine J.bipush hG dJ6_bitCount_0f7a4_43 (by decide) (by decide) ?_
    refine J.iushr hG (0) dJ6_bitCount_0f7a4_45 (fun _ _ => by decide) ?_
    refine J.iadd hG dJ6_bitCount_0f7a4_46 (fun _ _ => by decide) ?_
    refine J.istore_n hG dJ6_bitCount_0f7a4_47 rfl (Nat.le_of_ble_eq_true rfl) ?_
    show J TX X 1 48 [some (aI (1))] [] μ
    refine J.iload_n hG dJ6_bitCount_0f7a4_48 rfl rfl ?_
    refine J.bipush hG dJ6_bitCount_0f7a4_49 (by decide) (by decide) ?_
    refine J.iand hG (1) dJ6_bitCount_0f7a4_51 (fun _ _ => by decide) ?_
    refine J.iret hG dJ6_bitCount_0f7a4_52 ?_
    rw [hX]
    exact ⟨rfl, rfl⟩
  · refine J.iload_n hG dJ6_bitCount_0f7a4_0 rfl rfl ?_
    refine J.iload_n hG dJ6_bitCount_0f7a4_1 rfl rfl ?_
    refine J.iconst hG dJ6_bitCount_0f7a4_2 (by decide) ?_
    refine J.iushr hG (2) dJ6_bitCount_0f7a4_3 (fun _ _ => by decide) ?_
    refine J.ldcw hG (n := 1431655765) dJ6_bitCount_0f7a4_4 ct_J6_265 (by decide) (by decide) ?_
    refine J.iand hG (0) dJ6_bitCount_0f7a4_7 (fun _ _ => by decide) ?_
    refine J.isub hG dJ6_bitCount_0f7a4_8 (fun _ _ => by decide) ?_
    refine J.istore_n hG dJ6_bitCount_0f7a4_9 rfl (Nat.le_of_ble_eq_true rfl) ?_
    show J TX X 1 10 [some (aI (5))] [] μ
    refine J.iload_n hG dJ6_bitCount_0f7a4_10 rfl rfl ?_
    refine J.ldcw hG (n := 858993459) dJ6_bitCount_0f7a4_11 ct_J6_266 (by decide) (by decide) ?_
    refine J.iand hG (1) dJ6_bitCount_0f7a4_14 (fun _ _ => by decide) ?_
    refine J.iload_n hG dJ6_bitCount_0f7a4_15 rfl rfl ?_
    refine J.iconst hG dJ6_bitCount_0f7a4_16 (by decide) ?_
    refine J.iushr hG (1) dJ6_bitCount_0f7a4_17 (fun _ _ => by decide) ?_
    refine J.ldcw hG (n := 858993459) dJ6_bitCount_0f7a4_18 ct_J6_266 (by decide) (by decide) ?_
    refine J.iand hG (1) dJ6_bitCount_0f7a4_21 (fun _ _ => by decide) ?_
    refine J.iadd hG dJ6_bitCount_0f7a4_22 (fun _ _ => by decide) ?_
    refine J.istore_n hG dJ6_bitCount_0f7a4_23 rfl (Nat.le_of_ble_eq_true rfl) ?_
    show J TX X 1 24 [some (aI (2))] [] μ
    refine J.iload_n hG dJ6_bitCount_0f7a4_24 rfl rfl ?_
    refine J.iload_n hG dJ6_bitCount_0f7a4_25 rfl rfl ?_
    refine J.iconst hG dJ6_bitCount_0f7a4_26 (by decide) ?_
    refine J.iushr hG (0) dJ6_bitCount_0f7a4_27 (fun _ _ => by decide) ?_
    refine J.iadd hG dJ6_bitCount_0f7a4_28 (fun _ _ => by decide) ?_
    refine J.ldcw hG (n := 252645135) dJ6_bitCount_0f7a4_29 ct_J6_267 (by decide) (by decide) ?_
    refine J.iand hG (2) dJ6_bitCount_0f7a4_32 (fun _ _ => by decide) ?_
    refine J.istore_n hG dJ6_bitCount_0f7a4_33 rfl (Nat.le_of_ble_eq_true rfl) ?_
    show J TX X 1 34 [some (aI (2))] [] μ
    refine J.iload_n hG dJ6_bitCount_0f7a4_34 rfl rfl ?_
    refine J.iload_n hG dJ6_bitCount_0f7a4_35 rfl rfl ?_
    refine J.bipush hG dJ6_bitCount_0f7a4_36 (by decide) (by decide) ?_
    refine J.iushr hG (0) dJ6_bitCount_0f7a4_38 (fun _ _ => by decide) ?_
    refine J.iadd hG dJ6_bitCount_0f7a4_39 (fun _ _ => by decide) ?_
    refine J.istore_n hG dJ6_bitCount_0f7a4_40 rfl (Nat.le_of_ble_eq_true rfl) ?_
    show J TX X 1 41 [some (aI (2))] [] μ
    refine J.iload_n hG dJ6_bitCount_0f7a4_41 rfl rfl ?_
    refine J.iload_n hG dJ6_bitCount_0f7a4_42 rfl rfl ?_
    refine J.bipush hG dJ6_bitCount_0f7a4_43 (by decide) (by decide) ?_
    refine J.iushr hG (0) dJ6_bitCount_0f7a4_45 (fun _ _ => by decide) ?_
    refine J.iadd hG dJ6_bitCount_0f7a4_46 (fun _ _ => by decide) ?_
    refine J.istore_n hG dJ6_bitCount_0f7a4_47 rfl (Nat.le_of_ble_eq_true rfl) ?_
    show J TX X 1 48 [some (aI (2))] [] μ
    refine J.iload_n hG dJ6_bitCount_0f7a4_48 rfl rfl ?_
    refine J.bipush hG dJ6_bitCount_0f7a4_49 (by decide) (by decide) ?_
    refine J.iand hG (2) dJ6_bitCount_0f7a4_51 (fun _ _ => by decide) ?_
    refine J.iret hG dJ6_bitCount_0f7a4_52 ?_
    rw [hX]
    exact ⟨rfl, rfl⟩
  · refine J.iload_n hG dJ6_bitCount_0f7a4_0 rfl rfl ?_
    refine J.iload_n hG dJ6_bitCount_0f7a4_1 rfl rfl ?_
    refine J.iconst hG dJ6_bitCount_0f7a4_2 (by decide) ?_
    refine J.iushr hG (3) dJ6_bitCount_0f7a4_3 (fun _ _ => by decide) ?_
    refine J.ldcw hG (n := 1431655765) dJ6_bitCount_0f7a4_4 ct_J6_265 (by decide) (by decide) ?_
    refine J.iand hG (1) dJ6_bitCount_0f7a4_7 (fun _ _ => by decide) ?_
    refine J.isub hG dJ6_bitCount_0f7a4_8 (fun _ _ => by decide) ?_
    refine J.istore_n hG dJ6_bitCount_0f7a4_9 rfl (Nat.le_of_ble_eq_true rfl) ?_
    show J TX X 1 10 [some (aI (5))] [] μ
    refine J.iload_n hG dJ6_bitCount_0f7a4_10 rfl rfl ?_
    refine J.ldcw hG (n := 858993459) dJ6_bitCount_0f7a4_11 ct_J6_266 (by decide) (by decide) ?_
    refine J.iand hG (1) dJ6_bitCount_0f7a4_14 (fun _ _ => by decide) ?_
    refine J.iload_n hG dJ6_bitCount_0f7a4_15 rfl rfl ?_
    refine J.iconst hG dJ6_bitCount_0f7a4_16 (by decide) ?_
    refine J.iushr hG (1) dJ6_bitCount_0f7a4_17 (fun _ _ => by decide) ?_
    refine J.ldcw hG (n := 858993459) dJ6_bitCount_0f7a4_18 ct_J6_266 (by decide) (by decide) ?_
    refine J.iand hG (1) dJ6_bitCount_0f7a4_21 (fun _ _ => by decide) ?_
    refine J.iadd hG dJ6_bitCount_0f7a4_22 (fun _ _ => by decide) ?_
    refine J.istore_n hG dJ6_bitCount_0f7a4_23 rfl (Nat.le_of_ble_eq_true rfl) ?_
    show J TX X 1 24 [some (aI (2))] [] μ
    refine J.iload_n hG dJ6_bitCount_0f7a4_24 rfl rfl ?_
    refine J.iload_n hG dJ6_bitCount_0f7a4_25 rfl rfl ?_
    refine J.iconst hG dJ6_bitCount_0f7a4_26 (by decide) ?_
    refine J.iushr hG (0) dJ6_bitCount_0f7a4_27 (fun _ _ => by decide) ?_
    refine J.iadd hG dJ6_bitCount_0f7a4_28 (fun _ _ => by decide) ?_
    refine J.ldcw hG (n := 252645135) dJ6_bitCount_0f7a4_29 ct_J6_267 (by decide) (by decide) ?_
    refine J.iand hG (2) dJ6_bitCount_0f7a4_32 (fun _ _ => by decide) ?_
    refine J.istore_n hG dJ6_bitCount_0f7a4_33 rfl (Nat.le_of_ble_eq_true rfl) ?_
    show J TX X 1 34 [some (aI (2))] [] μ
    refine J.iload_n hG dJ6_bitCount_0f7a4_34 rfl rfl ?_
    refine J.iload_n hG dJ6_bitCount_0f7a4_35 rfl rfl ?_
    refine J.bipush hG dJ6_bitCount_0f7a4_36 (by decide) (by decide) ?_
    refine J.iushr hG (0) dJ6_bitCount_0f7a4_38 (fun _ _ => by decide) ?_
    refine J.iadd hG dJ6_bitCount_0f7a4_39 (fun _ _ => by decide) ?_
    refine J.istore_n hG dJ6_bitCount_0f7a4_40 rfl (Nat.le_of_ble_eq_true rfl) ?_
    show J TX X 1 41 [some (aI (2))] [] μ
    refine J.iload_n hG dJ6_bitCount_0f7a4_41 rfl rfl ?_
    refine J.iload_n hG dJ6_bitCount_0f7a4_42 rfl rfl ?_
    refine J.bipush hG dJ6_bitCount_0f7a4_43 (by decide) (by decide) ?_
    refine J.iushr hG (0) dJ6_bitCount_0f7a4_45 (fun _ _ => by decide) ?_
    refine J.iadd hG dJ6_bitCount_0f7a4_46 (fun _ _ => by decide) ?_
    refine J.istore_n hG dJ6_bitCount_0f7a4_47 rfl (Nat.le_of_ble_eq_true rfl) ?_
    show J TX X 1 48 [some (aI (2))] [] μ
    refine J.iload_n hG dJ6_bitCount_0f7a4_48 rfl rfl ?_
    refine J.bipush hG dJ6_bitCount_0f7a4_49 (by decide) (by decide) ?_
    refine J.iand hG (2) dJ6_bitCount_0f7a4_51 (fun _ _ => by decide) ?_
    refine J.iret hG dJ6_bitCount_0f7a4_52 ?_
    rw [hX]
    exact ⟨rfl, rfl⟩
  · refine J.iload_n hG dJ6_bitCount_0f7a4_0 rfl rfl ?_
    refine J.iload_n hG dJ6_bitCount_0f7a4_1 rfl rfl ?_
    refine J.iconst hG dJ6_bitCount_0f7a4_2 (by decide) ?_
    refine J.iushr hG (3) dJ6_bitCount_0f7a4_3 (fun _ _ => by decide) ?_
    refine J.ldcw hG (n := 1431655765) dJ6_bitCount_0f7a4_4 ct_J6_265 (by decide) (by decide) ?_
    refine J.iand hG (1) dJ6_bitCount_0f7a4_7 (fun _ _ => by decide) ?_
    refine J.isub hG dJ6_bitCount_0f7a4_8 (fun _ _ => by decide) ?_
    refine J.istore_n hG dJ6_bitCount_0f7a4_9 rfl (Nat.le_of_ble_eq_true rfl) ?_
    show J TX X 1 10 [some (aI (6))] [] μ
    refine J.iload_n hG dJ6_bitCount_0f7a4_10 rfl rfl ?_
    refine J.ldcw hG (n := 858993459) dJ6_bitCount_0f7a4_11 ct_J6_266 (by decide) (by decide) ?_
    refine J.iand hG (2) dJ6_bitCount_0f7a4_14 (fun _ _ => by decide) ?_
    refine J.iload_n hG dJ6_bitCount_0f7a4_15 rfl rfl ?_
    refine J.iconst hG dJ6_bitCount_0f7a4_16 (by decide) ?_
    refine J.iushr hG (1) dJ6_bitCount_0f7a4_17 (fun _ _ => by decide) ?_
    refine J.ldcw hG (n := 858993459) dJ6_bitCount_0f7a4_18 ct_J6_266 (by decide) (by decide) ?_
    refine J.iand hG (1) dJ6_bitCount_0f7a4_21 (fun _ _ => by decide) ?_
    refine J.iadd hG dJ6_bitCount_0f7a4_22 (fun _ _ => by decide) ?_
    refine J.istore_n hG dJ6_bitCount_0f7a4_23 rfl (Nat.le_of_ble_eq_true rfl) ?_
    show J TX X 1 24 [some (aI (3))] [] μ
    refine J.iload_n hG dJ6_bitCount_0f7a4_24 rfl rfl ?_
    refine J.iload_n hG dJ6_bitCount_0f7a4_25 rfl rfl ?_
    refine J.iconst hG dJ6_bitCount_0f7a4_26 (by decide) ?_
    refine J.iushr hG (0) dJ6_bitCount_0f7a4_27 (fun _ _ => by decide) ?_
    refine J.iadd hG dJ6_bitCount_0f7a4_28 (fun _ _ => by decide) ?_
    refine J.ldcw hG (n := 252645135) dJ6_bitCount_0f7a4_29 ct_J6_267 (by decide) (by decide) ?_
    refine J.iand hG (3) dJ6_bitCount_0f7a4_32 (fun _ _ => by decide) ?_
    refine J.istore_n hG dJ6_bitCount_0f7a4_33 rfl (Nat.le_of_ble_eq_true rfl) ?_
    show J TX X 1 34 [some (aI (3))] [] μ
    refine J.iload_n hG dJ6_bitCount_0f7a4_34 rfl rfl ?_
    refine J.iload_n hG dJ6_bitCount_0f7a4_35 rfl rfl ?_
    refine J.bipush hG dJ6_bitCount_0f7a4_36 (by decide) (by decide) ?_
    refine J.iushr hG (0) dJ6_bitCount_0f7a4_38 (fun _ _ => by decide) ?_
    refine J.iadd hG dJ6_bitCount_0f7a4_39 (fun _ _ => by decide) ?_
    refine J.istore_n hG dJ6_bitCount_0f7a4_40 rfl (Nat.le_of_ble_eq_true rfl) ?_
    show J TX X 1 41 [some (aI (3))] [] μ
    refine J.iload_n hG dJ6_bitCount_0f7a4_41 rfl rfl ?_
    refine J.iload_n hG dJ6_bitCount_0f7a4_42 rfl rfl ?_
    refine J.bipush hG dJ6_bitCount_0f7a4_43 (by decide) (by decide) ?_
    refine J.iushr hG (0) dJ6_bitCount_0f7a4_45 (fun _ _ => by decide) ?_
    refine J.iadd hG dJ6_bitCount_0f7a4_46 (fun _ _ => by decide) ?_
    refine J.istore_n hG dJ6_bitCount_0f7a4_47 rfl (Nat.le_of_ble_eq_true rfl) ?_
    show J TX X 1 48 [some (aI (3))] [] μ
    refine J.iload_n hG dJ6_bitCount_0f7a4_48 rfl rfl ?_
    refine J.bipush hG dJ6_bitCount_0f7a4_49 (by decide) (by decide) ?_
    refine J.iand hG (3) dJ6_bitCount_0f7a4_51 (fun _ _ => by decide) ?_
    refine J.iret hG dJ6_bitCount_0f7a4_52 ?_
    rw [hX]
    exact ⟨rfl, rfl⟩
  · refine J.iload_n hG dJ6_bitCount_0f7a4_0 rfl rfl ?_
    refine J.iload_n hG dJ6_bitCount_0f7a4_1 rfl rfl ?_
    refine J.iconst hG dJ6_bitCount_0f7a4_2 (by decide) ?_
    refine J.iushr hG (4) dJ6_bitCount_0f7a4_3 (fun _ _ => by decide) ?_
    refine J.ldcw hG (n := 1431655765) dJ6_bitCount_0f7a4_4 ct_J6_265 (by decide) (by decide) ?_
    refine J.iand hG (4) dJ6_bitCount_0f7a4_7 (fun _ _ => by decide) ?_
    refine J.isub hG dJ6_bitCount_0f7a4_8 (fun _ _ => by decide) ?_
    refine J.istore_n hG dJ6_bitCount_0f7a4_9 rfl (Nat.le_of_ble_eq_true rfl) ?_
    show J TX X 1 10 [some (aI (4))] [] μ
    refine J.iload_n hG dJ6_bitCount_0f7a4_10 rfl rfl ?_
    refine J.ldcw hG (n := 858993459) dJ6_bitCount_0f7a4_11 ct_J6_266 (by decide) (by decide) ?_
    refine J.iand hG (0) dJ6_bitCount_0f7a4_14 (fun _ _ => by decide) ?_
    refine J.iload_n hG dJ6_bitCount_0f7a4_15 rfl rfl ?_
    refine J.iconst hG dJ6_bitCount_0f7a4_16 (by decide) ?_
    refine J.iushr hG (1) dJ6_bitCount_0f7a4_17 (fun _ _ => by decide) ?_
    refine J.ldcw hG (n := 858993459) dJ6_bitCount_0f7a4_18 ct_J6_266 (by decide) (by decide) ?_
    refine J.iand hG (1) dJ6_bitCount_0f7a4_21 (fun _ _ => by decide) ?_
    refine J.iadd hG dJ6_bitCount_0f7a4_22 (fun _ _ => by decide) ?_
    refine J.istore_n hG dJ6_bitCount_0f7a4_23 rfl (Nat.le_of_ble_eq_true rfl) ?_
    show J TX X 1 24 [some (aI (1))] [] μ
    refine J.iload_n hG dJ6_bitCount_0f7a4_24 rfl rfl ?_
    refine J.iload_n hG dJ6_bitCount_0f7a4_25 rfl rfl ?_
    refine J.iconst hG dJ6_bitCount_0f7a4_26 (by decide) ?_
    refine J.iushr hG (0) dJ6_bitCount_0f7a4_27 (fun _ _ => by decide) ?_
    refine J.iadd hG dJ6_bitCount_0f7a4_28 (fun _ _ => by decide) ?_
    refine J.ldcw hG (n := 252645135) dJ6_bitCount_0f7a4_29 ct_J6_267 (by decide) (by decide) ?_
    refine J.iand hG (1) dJ6_bitCount_0f7a4_32 (fun _ _ => by decide) ?_
    refine J.istore_n hG dJ6_bitCount_0f7a4_33 rfl (Nat.le_of_ble_eq_true rfl) ?_
    show J TX X 1 34 [some (aI (1))] [] μ
    refine J.iload_n hG dJ6_bitCount_0f7a4_34 rfl rfl ?_
    refine J.iload_n hG dJ6_bitCount_0f7a4_35 rfl rfl ?_
    refine J.bipush hG dJ6_bitCount_0f7a4_36 (by decide) (by decide) ?_
    refine J.iushr hG (0) dJ6_bitCount_0f7a4_38 (fun _ _ => by decide) ?_
    refine J.iadd hG dJ6_bitCount_0f7a4_39 (fun _ _ => by decide) ?_
    refine J.istore_n hG dJ6_bitCount_0f7a4_40 rfl (Nat.le_of_ble_eq_true rfl) ?_
    show J TX X 1 41 [some (aI (1))] [] μ
    refine J.iload_n hG dJ6_bitCount_0f7a4_41 rfl rfl ?_
    refine J.iload_n hG dJ6_bitCount_0f7a4_42 rfl rfl ?_
    refine J.bipush hG dJ6_bitCount_0f7a4_43 (by decide) (by decide) ?_
    refine J.iushr hG (0) dJ6_bitCount_0f7a4_45 (fun _ _ => by decide) ?_
    refine J.iadd hG dJ6_bitCount_0f7a4_46 (fun _ _ => by decide) ?_
    refine J.istore_n hG dJ6_bitCount_0f7a4_47 rfl (Nat.le_of_ble_eq_true rfl) ?_
    show J TX X 1 48 [some (aI (1))] [] μ
    refine J.iload_n hG dJ6_bitCount_0f7a4_48 rfl rfl ?_
    refine J.bipush hG dJ6_bitCount_0f7a4_49 (by decide) (by decide) ?_
    refine J.iand hG (1) dJ6_bitCount_0f7a4_51 (fun _ _ => by decide) ?_
    refine J.iret hG dJ6_bitCount_0f7a4_52 ?_
    rw [hX]
    exact ⟨rfl, rfl⟩
  · refine J.iload_n hG dJ6_bitCount_0f7a4_0 rfl rfl ?_
    refine J.iload_n hG dJ6_bitCount_0f7a4_1 rfl rfl ?_
    refine J.iconst hG dJ6_bitCount_0f7a4_2 (by decide) ?_
    refine J.iushr hG (4) dJ6_bitCount_0f7a4_3 (fun _ _ => by decide) ?_
    refine J.ldcw hG (n := 1431655765) dJ6_bitCount_0f7a4_4 ct_J6_265 (by decide) (by decide) ?_
    refine J.iand hG (4) dJ6_bitCount_0f7a4_7 (fun _ _ => by decide) ?_
    refine J.isub hG dJ6_bitCount_0f7a4_8 (fun _ _ => by decide) ?_
    refine J.istore_n hG dJ6_bitCount_0f7a4_9 rfl (Nat.le_of_ble_eq_true rfl) ?_
    show J TX X 1 10 [some (aI (5))] [] μ
    refine J.iload_n hG dJ6_bitCount_0f7a4_10 rfl rfl ?_
    refine J.ldcw hG (n := 858993459) dJ6_bitCount_0f7a4_11 ct_J6_266 (by decide) (by decide) ?_
    refine J.iand hG (1) dJ6_bitCount_0f7a4_14 (fun _ _ => by decide) ?_
    refine J.iload_n hG dJ6_bitCount_0f7a4_15 rfl rfl ?_
    refine J.iconst hG dJ6_bitCount_0f7a4_16 (by decide) ?_
    refine J.iushr hG (1) dJ6_bitCount_0f7a4_17 (fun _ _ => by decide) ?_
    refine J.ldcw hG (n := 858993459) dJ6_bitCount_0f7a4_18 ct_J6_266 (by decide) (by decide) ?_
    refine J.iand hG (1) dJ6_bitCount_0f7a4_21 (fun _ _ => by decide) ?_
    refine J.iadd hG dJ6_bitCount_0f7a4_22 (fun _ _ => by decide) ?_
    refine J.istore_n hG dJ6_bitCount_0f7a4_23 rfl (Nat.le_of_ble_eq_true rfl) ?_
    show J TX X 1 24 [some (aI (2))] [] μ
    refine J.iload_n hG dJ6_bitCount_0f7a4_24 rfl rfl ?_
    refine J.iload_n hG dJ6_bitCount_0f7a4_25 rfl rfl ?_
    refine J.iconst hG dJ6_bitCount_0f7a4_26 (by decide) ?_
    refine J.iushr hG (0) dJ6_bitCount_0f7a4_27 (fun _ _ => by decide) ?_
    refine J.iadd hG dJ6_bitCount_0f7a4_28 (fun _ _ => by decide) ?_
    refine J.ldcw hG (n := 252645135) dJ6_bitCount_0f7a4_29 ct_J6_267 (by decide) (by decide) ?_
    refine J.iand hG (2) dJ6_bitCount_0f7a4_32 (fun _ _ => by decide) ?_
    refine J.istore_n hG dJ6_bitCount_0f7a4_33 rfl (Nat.le_of_ble_eq_true rfl) ?_
    show J TX X 1 34 [some (aI (2))] [] μ
    refine J.iload_n hG dJ6_bitCount_0f7a4_34 rfl rfl ?_
    refine J.iload_n hG dJ6_bitCount_0f7a4_35 rfl rfl ?_
    refine J.bipush hG dJ6_bitCount_0f7a4_36 (by decide) (by decide) ?_
    refine J.iushr hG (0) dJ6_bitCount_0f7a4_38 (fun _ _ => by decide) ?_
    refine J.iadd hG dJ6_bitCount_0f7a4_39 (fun _ _ => by decide) ?_
    refine J.istore_n hG dJ6_bitCount_0f7a4_40 rfl (Nat.le_of_ble_eq_true rfl) ?_
    show J TX X 1 41 [some (aI (2))] [] μ
    refine J.iload_n hG dJ6_bitCount_0f7a4_41 rfl rfl ?_
    refine J.iload_n hG dJ6_bitCount_0f7a4_42 rfl rfl ?_
    refine J.bipush hG dJ6_bitCount_0f7a4_43 (by decide) (by decide) ?_
    refine J.iushr hG (0) dJ6_bitCount_0f7a4_45 (fun _ _ => by decide) ?_
    refine J.iadd hG dJ6_bitCount_0f7a4_46 (fun _ _ => by decide) ?_
    refine J.istore_n hG dJ6_bitCount_0f7a4_47 rfl (Nat.le_of_ble_eq_true rfl) ?_
    show J TX X 1 48 [some (aI (2))] [] μ
    refine J.iload_n hG dJ6_bitCount_0f7a4_48 rfl rfl ?_
    refine J.bipush hG dJ6_bitCount_0f7a4_49 (by decide) (by decide) ?_
    refine J.iand hG (2) dJ6_bitCount_0f7a4_51 (fun _ _ => by decide) ?_
    refine J.iret hG dJ6_bitCount_0f7a4_52 ?_
    rw [hX]
    exact ⟨rfl, rfl⟩
  · refine J.iload_n hG dJ6_bitCount_0f7a4_0 rfl rfl ?_
    refine J.iload_n hG dJ6_bitCount_0f7a4_1 rfl rfl ?_
    refine J.iconst hG dJ6_bitCount_0f7a4_2 (by decide) ?_
    refine J.iushr hG (5) dJ6_bitCount_0f7a4_3 (fun _ _ => by decide) ?_
    refine J.ldcw hG (n := 1431655765) dJ6_bitCount_0f7a4_4 ct_J6_265 (by decide) (by decide) ?_
    refine J.iand hG (5) dJ6_bitCount_0f7a4_7 (fun _ _ => by decide) ?_
    refine J.isub hG dJ6_bitCount_0f7a4_8 (fun _ _ => by decide) ?_
    refine J.istore_n hG dJ6_bitCount_0f7a4_9 rfl (Nat.le_of_ble_eq_true rfl) ?_
    show J TX X 1 10 [some (aI (5))] [] μ
    refine J.iload_n hG dJ6_bitCount_0f7a4_10 rfl rfl ?_
    refine J.ldcw hG (n := 858993459) dJ6_bitCount_0f7a4_11 ct_J6_266 (by decide) (by decide) ?_
    refine J.iand hG (1) dJ6_bitCount_0f7a4_14 (fun _ _ => by decide) ?_
    refine J.iload_n hG dJ6_bitCount_0f7a4_15 rfl rfl ?_
    refine J.iconst hG dJ6_bitCount_0f7a4_16 (by decide) ?_
    refine J.iushr hG (1) dJ6_bitCount_0f7a4_17 (fun _ _ => by decide) ?_
    refine J.ldcw hG (n := 858993459) dJ6_bitCount_0f7a4_18 ct_J6_266 (by decide) (by decide) ?_
    refine J.iand hG (1) dJ6_bitCount_0f7a4_21 (fun _ _ => by decide) ?_
    refine J.iadd hG dJ6_bitCount_0f7a4_22 (fun _ _ => by decide) ?_
    refine J.istore_n hG dJ6_bitCount_0f7a4_23 rfl (Nat.le_of_ble_eq_true rfl) ?_
    show J TX X 1 24 [some (aI (2))] [] μ
    refine J.iload_n hG dJ6_bitCount_0f7a4_24 rfl rfl ?_
    refine J.iload_n hG dJ6_bitCount_0f7a4_25 rfl rfl ?_
    refine J.iconst hG dJ6_bitCount_0f7a4_26 (by decide) ?_
    refine J.iushr hG (0) dJ6_bitCount_0f7a4_27 (fun _ _ => by decide) ?_
    refine J.iadd hG dJ6_bitCount_0f7a4_28 (fun _ _ => by decide) ?_
    refine J.ldcw hG (n := 252645135) dJ6_bitCount_0f7a4_29 ct_J6_267 (by decide) (by decide) ?_
    refine J.iand hG (2) dJ6_bitCount_0f7a4_32 (fun _ _ => by decide) ?_
    refine J.istore_n hG dJ6_bitCount_0f7a4_33 rfl (Nat.le_of_ble_eq_true rfl) ?_
    show J TX X 1 34 [some (aI (2))] [] μ
    refine J.iload_n hG dJ6_bitCount_0f7a4_34 rfl rfl ?_
    refine J.iload_n hG dJ6_bitCount_0f7a4_35 rfl rfl ?_
    refine J.bipush hG dJ6_bitCount_0f7a4_36 (by decide) (by decide) ?_
    refine J.iushr hG (0) dJ6_bitCount_0f7a4_38 (fun _ _ => by decide) ?_
    refine J.iadd hG dJ6_bitCount_0f7a4_39 (fun _ _ => by decide) ?_
    refine J.istore_n hG dJ6_bitCount_0f7a4_40 rfl (Nat.le_of_ble_eq_true rfl) ?_
    show J TX X 1 41 [some (aI (2))] [] μ
    refine J.iload_n hG dJ6_bitCount_0f7a4_41 rfl rfl ?_
    refine J.iload_n hG dJ6_bitCount_0f7a4_42 rfl rfl ?_
    refine J.bipush hG dJ6_bitCount_0f7a4_43 (by decide) (by decide) ?_
    refine J.iushr hG (0) dJ6_bitCount_0f7a4_45 (fun _ _ => by decide) ?_
    refine J.iadd hG dJ6_bitCount_0f7a4_46 (fun _ _ => by decide) ?_
    refine J.istore_n hG dJ6_bitCount_0f7a4_47 rfl (Nat.le_of_ble_eq_true rfl) ?_
    show J TX X 1 48 [some (aI (2))] [] μ
    refine J.iload_n hG dJ6_bitCount_0f7a4_48 rfl rfl ?_
    refine J.bipush hG dJ6_bitCount_0f7a4_49 (by decide) (by decide) ?_
    refine J.iand hG (2) dJ6_bitCount_0f7a4_51 (fun _ _ => by decide) ?_
    refine J.iret hG dJ6_bitCount_0f7a4_52 ?_
    rw [hX]
    exact ⟨rfl, rfl⟩
  · refine J.iload_n hG dJ6_bitCount_0f7a4_0 rfl rfl ?_
    refine J.iload_n hG dJ6_bitCount_0f7a4_1 rfl rfl ?_
    refine J.iconst hG dJ6_bitCount_0f7a4_2 (by decide) ?_
    refine J.iushr hG (5) dJ6_bitCount_0f7a4_3 (fun _ _ => by decide) ?_
    refine J.ldcw hG (n := 1431655765) dJ6_bitCount_0f7a4_4 ct_J6_265 (by decide) (by decide) ?_
    refine J.iand hG (5) dJ6_bitCount_0f7a4_7 (fun _ _ => by decide) ?_
    refine J.isub hG dJ6_bitCount_0f7a4_8 (fun _ _ => by decide) ?_
    refine J.istore_n hG dJ6_bitCount_0f7a4_9 rfl (Nat.le_of_ble_eq_true rfl) ?_
    show J TX X 1 10 [some (aI (6))] [] μ
    refine J.iload_n hG dJ6_bitCount_0f7a4_10 rfl rfl ?_
    refine J.ldcw hG (n := 858993459) dJ6_bitCount_0f7a4_11 ct_J6_266 (by decide) (by decide) ?_
    refine J.iand hG (2) dJ6_bitCount_0f7a4_14 (fun _ _ => by decide) ?_
    refine J.iload_n hG dJ6_bitCount_0f7a4_15 rfl rfl ?_
    refine J.iconst hG dJ6_bitCount_0f7a4_16 (by decide) ?_
    refine J.iushr hG (1) dJ6_bitCount_0f7a4_17 (fun _ _ => by decide) ?_
    refine J.ldcw hG (n := 858993459) dJ6_bitCount_0f7a4_18 ct_J6_266 (by decide) (by decide) ?_
    refine J.iand hG (1) dJ6_bitCount_0f7a4_21 (fun _ _ => by decide) ?_
    refine J.iadd hG dJ6_bitCount_0f7a4_22 (fun _ _ => by decide) ?_
    refine J.istore_n hG dJ6_bitCount_0f7a4_23 rfl (Nat.le_of_ble_eq_true rfl) ?_
    show J TX X 1 24 [some (aI (3))] [] μ
    refine J.iload_n hG dJ6_bitCount_0f7a4_24 rfl rfl ?_
    refine J.iload_n hG dJ6_bitCount_0f7a4_25 rfl rfl ?_
    refine J.iconst hG dJ6_bitCount_0f7a4_26 (by decide) ?_
    refine J.iushr hG (0) dJ6_bitCount_0f7a4_27 (fun _ _ => by decide) ?_
    refine J.iadd hG dJ6_bitCount_0f7a4_28 (fun _ _ => by decide) ?_
    refine J.ldcw hG (n := 252645135) dJ6_bitCount_0f7a4_29 ct_J6_267 (by decide) (by decide) ?_
    refine J.iand hG (3) dJ6_bitCount_0f7a4_32 (fun _ _ => by decide) ?_
    refine J.istore_n hG dJ6_bitCount_0f7a4_33 rfl (Nat.le_of_ble_eq_true rfl) ?_
    show J TX X 1 34 [some (aI (3))] [] μ
    refine J.iload_n hG dJ6_bitCount_0f7a4_34 rfl rfl ?_
    refine J.iload_n hG dJ6_bitCount_0f7a4_35 rfl rfl ?_
    refine J.bipush hG dJ6_bitCount_0f7a4_36 (by decide) (by decide) ?_
    refine J.iushr hG (0) dJ6_bitCount_0f7a4_38 (fun _ _ => by decide) ?_
    refine J.iadd hG dJ6_bitCount_0f7a4_39 (fun _ _ => by decide) ?_
    refine J.istore_n hG dJ6_bitCount_0f7a4_40 rfl (Nat.le_of_ble_eq_true rfl) ?_
    show J TX X 1 41 [some (aI (3))] [] μ
    refine J.iload_n hG dJ6_bitCount_0f7a4_41 rfl rfl ?_
    refine J.iload_n hG dJ6_bitCount_0f7a4_42 rfl rfl ?_
    refine J.bipush hG dJ6_bitCount_0f7a4_43 (by decide) (by decide) ?_
    refine J.iushr hG (0) dJ6_bitCount_0f7a4_45 (fun _ _ => by decide) ?_
    refine J.iadd hG dJ6_bitCount_0f7a4_46 (fun _ _ => by decide) ?_
    refine J.istore_n hG dJ6_bitCount_0f7a4_47 rfl (Nat.le_of_ble_eq_true rfl) ?_
    show J TX X 1 48 [some (aI (3))] [] μ
    refine J.iload_n hG dJ6_bitCount_0f7a4_48 rfl rfl ?_
    refine J.bipush hG dJ6_bitCount_0f7a4_49 (by decide) (by decide) ?_
    refine J.iand hG (3) dJ6_bitCount_0f7a4_51 (fun _ _ => by decide) ?_
    refine J.iret hG dJ6_bitCount_0f7a4_52 ?_
    rw [hX]
    exact ⟨rfl, rfl⟩
  · refine J.iload_n hG dJ6_bitCount_0f7a4_0 rfl rfl ?_
    refine J.iload_n hG dJ6_bitCount_0f7a4_1 rfl rfl ?_
    refine J.iconst hG dJ6_bitCount_0f7a4_2 (by decide) ?_
    refine J.iushr hG (6) dJ6_bitCount_0f7a4_3 (fun _ _ => by decide) ?_
    refine J.ldcw hG (n := 1431655765) dJ6_bitCount_0f7a4_4 ct_J6_265 (by decide) (by decide) ?_
    refine J.iand hG (4) dJ6_bitCount_0f7a4_7 (fun _ _ => by decide) ?_
    refine J.isub hG dJ6_bitCount_0f7a4_8 (fun _ _ => by decide) ?_
    refine J.istore_n hG dJ6_bitCount_0f7a4_9 rfl (Nat.le_of_ble_eq_true rfl) ?_
    show J TX X 1 10 [some (aI (8))] [] μ
    refine J.iload_n hG dJ6_bitCount_0f7a4_10 rfl rfl ?_
    refine J.ldcw hG (n := 858993459) dJ6_bitCount_0f7a4_11 ct_J6_266 (by decide) (by decide) ?_
    refine J.iand hG (0) dJ6_bitCount_0f7a4_14 (fun _ _ => by decide) ?_
    refine J.iload_n hG dJ6_bitCount_0f7a4_15 rfl rfl ?_
    refine J.iconst hG dJ6_bitCount_0f7a4_16 (by decide) ?_
    refine J.iushr hG (2) dJ6_bitCount_0f7a4_17 (fun _ _ => by decide) ?_
    refine J.ldcw hG (n := 858993459) dJ6_bitCount_0f7a4_18 ct_J6_266 (by decide) (by decide) ?_
    refine J.iand hG (2) dJ6_bitCount_0f7a4_21 (fun _ _ => by decide) ?_
    refine J.iadd hG dJ6_bitCount_0f7a4_22 (fun _ _ => by decide) ?_
    refine J.istore_n hG dJ6_bitCount_0f7a4_23 rfl (Nat.le_of_ble_eq_true rfl) ?_
    show J TX X 1 24 [some (aI (2))] [] μ
    refine J.iload_n hG dJ6_bitCount_0f7a4_24 rfl rfl ?_
    refine J.iload_n hG dJ6_bitCount_0f7a4_25 rfl rfl ?_
    refine J.iconst hG dJ6_bitCount_0f7a4_26 (by decide) ?_
    refine J.iushr hG (0) dJ6_bitCount_0f7a4_27 (fun _ _ => by decide) ?_
    refine J.iadd hG dJ6_bitCount_0f7a4_28 (fun _ _ => by decide) ?_
    refine J.ldcw hG (n := 252645135) dJ6_bitCount_0f7a4_29 ct_J6_267 (by decide) (by decide) ?_
    refine J.iand hG (2) dJ6_bitCount_0f7a4_32 (fun _ _ => by decide) ?_
    refine J.istore_n hG dJ6_bitCount_0f7a4_33 rfl (Nat.le_of_ble_eq_true rfl) ?_
    show J TX X 1 34 [some (aI (2))] [] μ
    refine J.iload_n hG dJ6_bitCount_0f7a4_34 rfl rfl ?_
    refine J.iload_n hG dJ6_bitCount_0f7a4_35 rfl rfl ?_
    refine J.bipush hG dJ6_bitCount_0f7a4_36 (by decide) (by decide) ?_
    refine J.iushr hG (0) dJ6_bitCount_0f7a4_38 (fun _ _ => by decide) ?_
    refine J.iadd hG dJ6_bitCount_0f7a4_39 (fun _ _ => by decide) ?_
    refine J.istore_n hG dJ6_bitCount_0f7a4_40 rfl (Nat.le_of_ble_eq_true rfl) ?_
    show J TX X 1 41 [some (aI (2))] [] μ
    refine J.iload_n hG dJ6_bitCount_0f7a4_41 rfl rfl ?_
    refine J.iload_n hG dJ6_bitCount_0f7a4_42 rfl rfl ?_
    refine J.bipush hG dJ6_bitCount_0f7a4_43 (by decide) (by decide) ?_
    refine J.iushr hG (0) dJ6_bitCount_0f7a4_45 (fun _ _ => by decide) ?_
    refine J.iadd hG dJ6_bitCount_0f7a4_46 (fun _ _ => by decide) ?_
    refine J.istore_n hG dJ6_bitCount_0f7a4_47 rfl (Nat.le_of_ble_eq_true rfl) ?_
    show J TX X 1 48 [some (aI (2))] [] μ
    refine J.iload_n hG dJ6_bitCount_0f7a4_48 rfl rfl ?_
    refine J.bipush hG dJ6_bitCount_0f7a4_49 (by decide) (by decide) ?_
    refine J.iand hG (2) dJ6_bitCount_0f7a4_51 (fun _ _ => by decide) ?_
    refine J.iret hG dJ6_bitCount_0f7a4_52 ?_
    rw [hX]
    exact ⟨rfl, rfl⟩
  · refine J.iload_n hG dJ6_bitCount_0f7a4_0 rfl rfl ?_
    refine J.iload_n hG dJ6_bitCount_0f7a4_1 rfl rfl ?_
    refine J.iconst hG dJ6_bitCount_0f7a4_2 (by decide) ?_
    refine J.iushr hG (6) dJ6_bitCount_0f7a4_3 (fun _ _ => by decide) ?_
    refine J.ldcw hG (n := 1431655765) dJ6_bitCount_0f7a4_4 ct_J6_265 (by decide) (by decide) ?_
    refine J.iand hG (4) dJ6_bitCount_0f7a4_7 (fun _ _ => by decide) ?_
    refine J.isub hG dJ6_bitCount_0f7a4_8 (fun _ _ => by decide) ?_
    refine J.istore_n hG dJ6_bitCount_0f7a4_9 rfl (Nat.le_of_ble_eq_true rfl) ?_
    show J TX X 1 10 [some (aI (9))] [] μ
    refine J.iload_n hG dJ6_bitCount_0f7a4_10 rfl rfl ?_
    refine J.ldcw hG (n := 858993459) dJ6_bitCount_0f7a4_11 ct_J6_266 (by decide) (by decide) ?_
    refine J.iand hG (1) dJ6_bitCount_0f7a4_14 (fun _ _ => by decide) ?_
    refine J.iload_n hG dJ6_bitCount_0f7a4_15 rfl rfl ?_
    refine J.iconst hG dJ6_bitCount_0f7a4_16 (by decide) ?_
    refine J.iushr hG (2) dJ6_bitCount_0f7a4_17 (fun _ _ => by decide) ?_
    refine J.ldcw hG (n := 858993459) dJ6_bitCount_0f7a4_18 ct_J6_266 (by decide) (by decide) ?_
    refine J.iand hG (2) dJ6_bitCount_0f7a4_21 (fun _ _ => by decide) ?_
    refine J.iadd hG dJ6_bitCount_0f7a4_22 (fun _ _ => by decide) ?_
    refine J.istore_n hG dJ6_bitCount_0f7a4_23 rfl (Nat.le_of_ble_eq_true rfl) ?_
    show J TX X 1 24 [some (aI (3))] [] μ
    refine J.iload_n hG dJ6_bitCount_0f7a4_24 rfl rfl ?_
    refine J.iload_n hG dJ6_bitCount_0f7a4_25 rfl rfl ?_
    refine J.iconst hG dJ6_bitCount_0f7a4_26 (by decide) ?_
    refine J.iushr hG (0) dJ6_bitCount_0f7a4_27 (fun _ _ => by decide) ?_
    refine J.iadd hG dJ6_bitCount_0f7a4_28 (fun _ _ => by decide) ?_
    refine J.ldcw hG (n := 252645135) dJ6_bitCount_0f7a4_29 ct_J6_267 (by decide) (by decide) ?_
    refine J.iand hG (3) dJ6_bitCount_0f7a4_32 (fun _ _ => by decide) ?_
    refine J.istore_n hG dJ6_bitCount_0f7a4_33 rfl (Nat.le_of_ble_eq_true rfl) ?_
    show J TX X 1 34 [some (aI (3))] [] μ
    refine J.iload_n hG dJ6_bitCount_0f7a4_34 rfl rfl ?_
    refine J.iload_n hG dJ6_bitCount_0f7a4_35 rfl rfl ?_
    refine J.bipush hG dJ6_bitCount_0f7a4_36 (by decide) (by decide) ?_
    refine J.iushr hG (0) dJ6_bitCount_0f7a4_38 (fun _ _ => by decide) ?_
    refine J.iadd hG dJ6_bitCount_0f7a4_39 (fun _ _ => by decide) ?_
    refine J.istore_n hG dJ6_bitCount_0f7a4_40 rfl (Nat.le_of_ble_eq_true rfl) ?_
    show J TX X 1 41 [some (aI (3))] [] μ
    refine J.iload_n hG dJ6_bitCount_0f7a4_41 rfl rfl ?_
    refine J.iload_n hG dJ6_bitCount_0f7a4_42 rfl rfl ?_
    refine J.bipush hG dJ6_bitCount_0f7a4_43 (by decide) (by decide) ?_
    refine J.iushr hG (0) dJ6_bitCount_0f7a4_45 (fun _ _ => by decide) ?_
    refine J.iadd hG dJ6_bitCount_0f7a4_46 (fun _ _ => by decide) ?_
    refine J.istore_n hG dJ6_bitCount_0f7a4_47 rfl (Nat.le_of_ble_eq_true rfl) ?_
    show J TX X 1 48 [some (aI (3))] [] μ
    refine J.iload_n hG dJ6_bitCount_0f7a4_48 rfl rfl ?_
    refine J.bipush hG dJ6_bitCount_0f7a4_49 (by decide) (by decide) ?_
    refine J.iand hG (3) dJ6_bitCount_0f7a4_51 (fun _ _ => by decide) ?_
    refine J.iret hG dJ6_bitCount_0f7a4_52 ?_
    rw [hX]
    exact ⟨rfl, rfl⟩
  · refine J.iload_n hG dJ6_bitCount_0f7a4_0 rfl rfl ?_
    refine J.iload_n hG dJ6_bitCount_0f7a4_1 rfl rfl ?_
    refine J.iconst hG dJ6_bitCount_0f7a4_2 (by decide) ?_
    refine J.iushr hG (7) dJ6_bitCount_0f7a4_3 (fun _ _ => by decide) ?_
    refine J.ldcw hG (n := 1431655765) dJ6_bitCount_0f7a4_4 ct_J6_265 (by decide) (by decide) ?_
    refine J.iand hG (5) dJ6_bitCount_0f7a4_7 (fun _ _ => by decide) ?_
    refine J.isub hG dJ6_bitCount_0f7a4_8 (fun _ _ => by decide) ?_
    refine J.istore_n hG dJ6_bitCount_0f7a4_9 rfl (Nat.le_of_ble_eq_true rfl) ?_
    show J TX X 1 10 [some (aI (9))] [] μ
    refine J.iload_n hG dJ6_bitCount_0f7a4_10 rfl rfl ?_
    refine J.ldcw hG (n := 858993459) dJ6_bitCount_0f7a4_11 ct_J6_266 (by decide) (by decide) ?_
    refine J.iand hG (1) dJ6_bitCount_0f7a4_14 (fun _ _ => by decide) ?_
    refine J.iload_n hG dJ6_bitCount_0f7a4_15 rfl rfl ?_
    refine J.iconst hG dJ6_bitCount_0f7a4_16 (by decide) ?_
    refine J.iushr hG (2) dJ6_bitCount_0f7a4_17 (fun _ _ => by decide) ?_
    refine J.ldcw hG (n := 858993459) dJ6_bitCount_0f7a4_18 ct_J6_266 (by decide) (by decide) ?_
    refine J.iand hG (2) dJ6_bitCount_0f7a4_21 (fun _ _ => by decide) ?_
    refine J.iadd hG dJ6_bitCount_0f7a4_22 (fun _ _ => by decide) ?_
    refine J.istore_n hG dJ6_bitCount_0f7a4_23 rfl (Nat.le_of_ble_eq_true rfl) ?_
    show J TX X 1 24 [some (aI (3))] [] μ
    refine J.iload_n hG dJ6_bitCount_0f7a4_24 rfl rfl ?_
    refine J.iload_n hG dJ6_bitCount_0f7a4_25 rfl rfl ?_
    refine J.iconst hG dJ6_bitCount_0f7a4_26 (by decide) ?_
    refine J.iushr hG (0) dJ6_bitCount_0f7a4_27 (fun _ _ => by decide) ?_
    refine J.iadd hG dJ6_bitCount_0f7a4_28 (fun _ _ => by decide) ?_
    refine J.ldcw hG (n := 252645135) dJ6_bitCount_0f7a4_29 ct_J6_267 (by decide) (by decide) ?_
    refine J.iand hG (3) dJ6_bitCount_0f7a4_32 (fun _ _ => by decide) ?_
    refine J.istore_n hG dJ6_bitCount_0f7a4_33 rfl (Nat.le_of_ble_eq_true rfl) ?_
    show J TX X 1 34 [some (aI (3))] [] μ
    refine J.iload_n hG dJ6_bitCount_0f7a4_34 rfl rfl ?_
    refine J.iload_n hG dJ6_bitCount_0f7a4_35 rfl rfl ?_
    refine J.bipush hG dJ6_bitCount_0f7a4_36 (by decide) (by decide) ?_
    refine J.iushr hG (0) dJ6_bitCount_0f7a4_38 (fun _ _ => by decide) ?_
    refine J.iadd hG dJ6_bitCount_0f7a4_39 (fun _ _ => by decide) ?_
    refine J.istore_n hG dJ6_bitCount_0f7a4_40 rfl (Nat.le_of_ble_eq_true rfl) ?_
    show J TX X 1 41 [some (aI (3))] [] μ
    refine J.iload_n hG dJ6_bitCount_0f7a4_41 rfl rfl ?_
    refine J.iload_n hG dJ6_bitCount_0f7a4_42 rfl rfl ?_
    refine J.bipush hG dJ6_bitCount_0f7a4_43 (by decide) (by decide) ?_
    refine J.iushr hG (0) dJ6_bitCount_0f7a4_45 (fun _ _ => by decide) ?_
    refine J.iadd hG dJ6_bitCount_0f7a4_46 (fun _ _ => by decide) ?_
    refine J.istore_n hG dJ6_bitCount_0f7a4_47 rfl (Nat.le_of_ble_eq_true rfl) ?_
    show J TX X 1 48 [some (aI (3))] [] μ
    refine J.iload_n hG dJ6_bitCount_0f7a4_48 rfl rfl ?_
    refine J.bipush hG dJ6_bitCount_0f7a4_49 (by decide) (by decide) ?_
    refine J.iand hG (3) dJ6_bitCount_0f7a4_51 (fun _ _ => by decide) ?_
    refine J.iret hG dJ6_bitCount_0f7a4_52 ?_
    rw [hX]
    exact ⟨rfl, rfl⟩
  · refine J.iload_n hG dJ6_bitCount_0f7a4_0 rfl rfl ?_
    refine J.iload_n hG dJ6_bitCount_0f7a4_1 rfl rfl ?_
    refine J.iconst hG dJ6_bitCount_0f7a4_2 (by decide) ?_
    refine J.iushr hG (7) dJ6_bitCount_0f7a4_3 (fun _ _ => by decide) ?_
    refine J.ldcw hG (n := 1431655765) dJ6_bitCount_0f7a4_4 ct_J6_265 (by decide) (by decide) ?_
    refine J.iand hG (5) dJ6_bitCount_0f7a4_7 (fun _ _ => by decide) ?_
    refine J.isub hG dJ6_bitCount_0f7a4_8 (fun _ _ => by decide) ?_
    refine J.istore_n hG dJ6_bitCount_0f7a4_9 rfl (Nat.le_of_ble_eq_true rfl) ?_
    show J TX X 1 10 [some (aI (10))] [] μ
    refine J.iload_n hG dJ6_bitCount_0f7a4_10 rfl rfl ?_
    refine J.ldcw hG (n := 858993459) dJ6_bitCount_0f7a4_11 ct_J6_266 (by decide) (by decide) ?_
    refine J.iand hG (2) dJ6_bitCount_0f7a4_14 (fun _ _ => by decide) ?_
    refine J.iload_n hG dJ6_bitCount_0f7a4_15 rfl rfl ?_
    refine J.iconst hG dJ6_bitCount_0f7a4_16 (by decide) ?_
    refine J.iushr hG (2) dJ6_bitCount_0f7a4_17 (fun _ _ => by decide) ?_
    refine J.ldcw hG (n := 858993459) dJ6_bitCount_0f7a4_18 ct_J6_266 (by decide) (by decide) ?_
    refine J.iand hG (2) dJ6_bitCount_0f7a4_21 (fun _ _ => by decide) ?_
    refine J.iadd hG dJ6_bitCount_0f7a4_22 (fun _ _ => by decide) ?_
    refine J.istore_n hG dJ6_bitCount_0f7a4_23 rfl (Nat.le_of_ble_eq_true rfl) ?_
    show J TX X 1 24 [some (aI (4))] [] μ
    refine J.iload_n hG dJ6_bitCount_0f7a4_24 rfl rfl ?_
    refine J.iload_n hG dJ6_bitCount_0f7a4_25 rfl rfl ?_
    refine J.iconst hG dJ6_bitCount_0f7a4_26 (by decide) ?_
    refine J.iushr hG (0) dJ6_bitCount_0f7a4_27 (fun _ _ => by decide) ?_
    refine J.iadd hG dJ6_bitCount_0f7a4_28 (fun _ _ => by decide) ?_
    refine J.ldcw hG (n := 252645135) dJ6_bitCount_0f7a4_29 ct_J6_267 (by decide) (by decide) ?_
    refine J.iand hG (4) dJ6_bitCount_0f7a4_32 (fun _ _ => by decide) ?_
    refine J.istore_n hG dJ6_bitCount_0f7a4_33 rfl (Nat.le_of_ble_eq_true rfl) ?_
    show J TX X 1 34 [some (aI (4))] [] μ
    refine J.iload_n hG dJ6_bitCount_0f7a4_34 rfl rfl ?_
    refine J.iload_n hG dJ6_bitCount_0f7a4_35 rfl rfl ?_
    refine J.bipush hG dJ6_bitCount_0f7a4_36 (by decide) (by decide) ?_
    refine J.iushr hG (0) dJ6_bitCount_0f7a4_38 (fun _ _ => by decide) ?_
    refine J.iadd hG dJ6_bitCount_0f7a4_39 (fun _ _ => by decide) ?_
    refine J.istore_n hG dJ6_bitCount_0f7a4_40 rfl (Nat.le_of_ble_eq_true rfl) ?_
    show J TX X 1 41 [some (aI (4))] [] μ
    refine J.iload_n hG dJ6_bitCount_0f7a4_41 rfl rfl ?_
    refine J.iload_n hG dJ6_bitCount_0f7a4_42 rfl rfl ?_
    refine J.bipush hG dJ6_bitCount_0f7a4_43 (by decide) (by decide) ?_
    refine J.iushr hG (0) dJ6_bitCount_0f7a4_45 (fun _ _ => by decide) ?_
    refine J.iadd hG dJ6_bitCount_0f7a4_46 (fun _ _ => by decide) ?_
    refine J.istore_n hG dJ6_bitCount_0f7a4_47 rfl (Nat.le_of_ble_eq_true rfl) ?_
    show J TX X 1 48 [some (aI (4))] [] μ
    refine J.iload_n hG dJ6_bitCount_0f7a4_48 rfl rfl ?_
    refine J.bipush hG dJ6_bitCount_0f7a4_49 (by decide) (by decide) ?_
    refine J.iand hG (4) dJ6_bitCount_0f7a4_51 (fun _ _ => by decide) ?_
    refine J.iret hG dJ6_bitCount_0f7a4_52 ?_
    rw [hX]
    exact ⟨rfl, rfl⟩


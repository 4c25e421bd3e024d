/-- the ends by a row of now (its laws), the values that of another: unlawful lives as bits, n years on -/
def yB (μ : Mem) (En : Int → Int → Int) (c : Nat) (n : Int) : Int := smf (fun l => if fs3 (fun s => En s (mV μ c n l s)) (μ 0 14).toNat 0 = -9 then 0 else p2 l) 0 (μ 0 15).toNat
def yY (μ : Mem) (En : Int → Int → Int) (c : Nat) : Int := smf (fun n => pc4 (yB μ En c n)) 0 21
theorem yB_bound (μ : Mem) (En : Int → Int → Int) (c : Nat) (n : Int) (h : 0 ≤ μ 0 15 ∧ μ 0 15 ≤ 4) : 0 ≤ yB μ En c n ∧ yB μ En c n ≤ 15 := xBits_aux _ (fun i => by split <;> simp) _ h
theorem pc4_bound (x : Int) (h : 0 ≤ x ∧ x ≤ 15) : 0 ≤ pc4 x ∧ pc4 x ≤ 4 := by unfold pc4; omega
theorem yY_bound (μ : Mem) (En : Int → Int → Int) (c : Nat) (h : 0 ≤ μ 0 15 ∧ μ 0 15 ≤ 4) : 0 ≤ yY μ En c ∧ yY μ En c ≤ 84 := by
  have := smf_bound (f := fun n => pc4 (yB μ En c n)) (a := 0) (b := 4) 21 0 (fun i _ _ => pc4_bound _ (yB_bound μ En c i h))
  unfold yY
  omega
theorem yB_of {μ ν : Mem} {n : Int} (hB : MB μ) (h : MGoN 8 μ n ν) : mBits ν 8 = yB μ (mEn μ 8) 8 n := by
  unfold mBits yB
  have e0 := h.1 0 (by decide)
  have g1 := hB.1
  have g2 := hB.2.1
  rw [e0]
  refine smf_congr _ _ (fun l a b => ?_)
  have e : mU ν 8 l = fs3 (fun s => mEn μ 8 s (mV μ 8 n l s)) (μ 0 14).toNat 0 := by
    unfold mU
    rw [e0]
    refine fs3_congr _ _ (fun s c d => ?_)
    unfold mE
    rw [MGoN_En (by decide) h _ _ (by omega), h.2.2.2.2 l s (by omega) (by omega) (by omega) (by omega)]
  rw [e]

set_option maxRecDepth 100000 in
set_option maxHeartbeats 4000000 in
theorem X7_unlawfulYears (μ : Mem) (hB : MB μ) (hR : RB μ 8) (hy : 0 ≤ μ 8 24 ∧ μ 8 24 ≤ 1000) (hj : 0 ≤ μ 8 25 ∧ μ 8 25 ≤ 100000) : CT TM md_X7_unlawfulYears [aR 0] μ (fun rv μ1 => (∀ c : Nat, c ≠ 8 → μ1 c = μ c) ∧ rv = some (aI (yY μ (mEn μ 8) 8))) := by
  refine CT.of (Nat.le_of_ble_eq_true rfl) (by decide) rfl (Nat.le_of_ble_eq_true rfl) (fun X hG hX => ?_)
  have hG : G TM X RX7 cX7_unlawfulYears 3 5 115 (some .int) := hG
  show J TM X 3 0 [some (aR 0), none, none] [] μ
  have hB2 := hB
  obtain ⟨h1, h2, h3, h4, h5, h6⟩ := hB2
  have lp : ∀ (k : Nat) (n : Int) (ν : Mem) (a : Int), 0 ≤ n → n + k = 21 → (MGoN 8 μ n ν) → (0 ≤ a ∧ a ≤ 4 * n) → (a + smf (fun n => pc4 (yB μ (mEn μ 8) 8 n)) n k = yY μ (mEn μ 8) 8) → J TM X 3 4 [some (aR 0), some (aI a), some (aI n)] [] ν := by
    intro k
    induction k with
    | zero =>
      intro n ν a i0 i1 hI i2 i3
      have f24 := hI.2.2.1
      have jb := MGoN_jb hB (by omega) hI
      simp only [smf] at i3
      refine J.iload_n hG dX7_unlawfulYears_4 rfl rfl ?_
      refine J.bipush hG dX7_unlawfulYears_5 (by decide) (by decide) ?_
      refine J.icmp_ge hG 38 dX7_unlawfulYears_7 rfl (fun h7 => ?_) (fun h7 => absurd h7 (by omega))
      refine J.iload_n hG dX7_unlawfulYears_38 rfl rfl ?_
      refine J.iret hG dX7_unlawfulYears_39 ?_
      rw [hX]; dsimp only
      exact ⟨hI.1, by rw [← i3, Int.add_zero]⟩
    | succ k ih =>
      intro n ν a i0 i1 hI i2 i3
      have f24 := hI.2.2.1
      have jb := MGoN_jb hB (by omega) hI
      rw [smf] at i3
      have pb := pc4_bound _ (yB_bound μ (mEn μ 8) 8 n h2)
      have eb := yB_of hB hI
      have bb := mBits_bound ν 8 (by rw [hI.1 0 (by decide)]; exact h2)
      refine J.iload_n hG dX7_unlawfulYears_4 rfl rfl ?_
      refine J.bipush hG dX7_unlawfulYears_5 (by decide) (by decide) ?_
      refine J.icmp_ge hG 38 dX7_unlawfulYears_7 rfl (fun h7 => absurd h7 (by omega)) (fun h7 => ?_)
      refine J.iload_n hG dX7_unlawfulYears_10 rfl rfl ?_
      refine J.aload_n hG dX7_unlawfulYears_11 rfl rfl ?_
      refine J.aload_n hG dX7_unlawfulYears_12 rfl rfl ?_
      refine J.getR hG ciX7 rfl 23 23 rfl (Nat.le_of_ble_eq_true rfl) rfl fl_X7_31 dX7_unlawfulYears_13 ?_
      refine J.callV hG (X7_unlawful _ (MGoN_MB (Or.inr rfl) hB hR hI) _ (MGoN_RB hB hR hI)) ok_X7_unlawful ml_X7_197 rfl rfl rfl rfl (Nat.le_of_ble_eq_true rfl) ⟨Nat.le_of_ble_eq_true rfl, Nat.le_of_ble_eq_true rfl⟩ dX7_unlawfulYears_16 rfl (fun r1 μ1 hp1 => ?_)
      obtain ⟨rfl, rfl⟩ := hp1
      refine J.callS hG (X7_ones _ _ bb) ok_X7_ones ml_X7_201 rfl (Nat.le_of_ble_eq_true rfl) ⟨Nat.le_of_ble_eq_true rfl, Nat.le_of_ble_eq_true rfl⟩ dX7_unlawfulYears_19 rfl (fun r1 μ1 hp1 => ?_)
      obtain ⟨rfl, rfl⟩ := hp1
      rw [eb]
      refine J.iadd hG dX7_unlawfulYears_22 (fun _ _ => (by omega)) ?_
      refine J.istore_n hG dX7_unlawfulYears_23 rfl (Nat.le_of_ble_eq_true rfl) ?_
      refine J.aload_n hG dX7_unlawfulYears_24 rfl rfl ?_
      refine J.aload_n hG dX7_unlawfulYears_25 rfl rfl ?_
      refine J.getR hG ciX7 rfl 23 23 rfl (Nat.le_of_ble_eq_true rfl) rfl fl_X7_31 dX7_unlawfulYears_26 ?_
      refine J.callV hG (X7_goes_8 _ (MGoN_MB (Or.inr rfl) hB hR hI) (MGoN_RB hB hR hI) (by omega) (by omega)) ok_X7_goes ml_X7_186 rfl rfl rfl rfl (Nat.le_of_ble_eq_true rfl) ⟨Nat.le_of_ble_eq_true rfl, Nat.le_of_ble_eq_true rfl⟩ dX7_unlawfulYears_29 rfl (fun r1 ν1 hp1 => ?_)
      obtain ⟨rfl, hg⟩ := hp1
      refine J.iinc hG dX7_unlawfulYears_32 (Nat.le_of_ble_eq_true rfl) rfl (fun _ => (by omega)) ?_
      refine J.goto hG 4 dX7_unlawfulYears_35 rfl ?_
      exact ih (n + 1) _ _ (by omega) (by omega) (MGoN_succ hB hR (by omega) hI hg) (by omega) (by omega)
  refine J.iconst hG dX7_unlawfulYears_0 (by decide) ?_
  refine J.istore_n hG dX7_unlawfulYears_1 rfl (Nat.le_of_ble_eq_true rfl) ?_
  refine J.iconst hG dX7_unlawfulYears_2 (by decide) ?_
  refine J.istore_n hG dX7_unlawfulYears_3 rfl (Nat.le_of_ble_eq_true rfl) ?_
  exact lp 21 0 μ 0 (Int.le_refl _) (by omega) (MGoN_0 hR) (by omega) (by unfold yY; omega)

/-- the ends of now, but one scale's by another law -/
def mEL (μ : Mem) (k w t : Int) (s v : Int) : Int := if s = k then EB w t (μ 2 s) v else mEn μ 7 s v
theorem AsN_yB {μ α : Mem} (hB : MB μ) (h : AsN μ α) {En En' : Int → Int → Int} (hE : ∀ s v : Int, 0 ≤ s → s < μ 0 14 → En s v = En' s v) (n : Int) : yB α En 8 n = yB μ En' 7 n := by
  have g1 := hB.1
  have g2 := hB.2.1
  unfold yB
  rw [h.1 0 (by decide)]
  refine smf_congr _ _ (fun l a b => ?_)
  have e : fs3 (fun s => En s (mV α 8 n l s)) (μ 0 14).toNat 0 = fs3 (fun s => En' s (mV μ 7 n l s)) (μ 0 14).toNat 0 := fs3_congr _ _ (fun s c d => by rw [AsN_V h _ _ _ (by omega) (by omega), hE s _ c (by omega)])
  rw [e]
theorem AsN_yY {μ α : Mem} (hB : MB μ) (h : AsN μ α) {En En' : Int → Int → Int} (hE : ∀ s v : Int, 0 ≤ s → s < μ 0 14 → En s v = En' s v) : yY α En 8 = yY μ En' 7 := by
  unfold yY
  exact smf_congr _ _ (fun n _ _ => by rw [AsN_yB hB h hE n])
/-- the row w with another law -/
def lawW (α : Mem) (k w t : Int) : Mem := up (up α 8 (2 * k) w) 8 (2 * k + 1) t
theorem lawW_c (α : Mem) (k w t : Int) (c : Nat) (h : c ≠ 8) : lawW α k w t c = α c := by unfold lawW; rw [up_cell _ _ _ h, up_cell _ _ _ h]
theorem lawW_j (α : Mem) (k w t j : Int) (h : ¬ (j = 2 * k ∨ j = 2 * k + 1)) : lawW α k w t 8 j = α 8 j := by unfold lawW; rw [up_ne _ (fun z => h (Or.inr z.2)), up_ne _ (fun z => h (Or.inl z.2))]
theorem lawW_V {μ α : Mem} (h : AsN μ α) (k w t n l s : Int) (hk : 0 ≤ k ∧ k < 4) (hl : 0 ≤ l ∧ l < 4) (hs : 0 ≤ s ∧ s < 4) : mV (lawW α k w t) 8 n l s = mV μ 7 n l s := by
  unfold mV
  rw [lawW_c α k w t 2 (by decide), lawW_c α k w t 5 (by decide), lawW_j _ _ _ _ _ (by omega), h.1 2 (by decide), h.1 5 (by decide), h.2 _ (by omega) (by omega)]
theorem lawW_En {μ α : Mem} (h : AsN μ α) (k w t s v : Int) (hk : 0 ≤ k ∧ k < 4) (hs : 0 ≤ s ∧ s < 4) : mEn (lawW α k w t) 8 s v = mEL μ k w t s v := by
  unfold mEn mEL
  rw [lawW_c α k w t 2 (by decide), h.1 2 (by decide)]
  by_cases e : s = k
  · rw [if_pos e, e]
    unfold lawW
    rw [up_ne _ (fun z => by omega), up_self, up_self]
  · rw [if_neg e, lawW_j _ _ _ _ _ (by omega), lawW_j _ _ _ _ _ (by omega), h.2 _ (by omega) (by omega), h.2 _ (by omega) (by omega)]
    rfl
theorem lawW_yY {μ α : Mem} (hB : MB μ) (h : AsN μ α) (k w t : Int) (hk : 0 ≤ k ∧ k < 4) : yY (lawW α k w t) (mEn (lawW α k w t) 8) 8 = yY μ (mEL μ k w t) 7 := by
  have g1 := hB.1
  have g2 := hB.2.1
  unfold yY
  refine smf_congr _ _ (fun n _ _ => ?_)
  congr 1
  unfold yB
  rw [lawW_c α k w t 0 (by decide), h.1 0 (by decide)]
  refine smf_congr _ _ (fun l a b => ?_)
  have e : fs3 (fun s => mEn (lawW α k w t) 8 s (mV (lawW α k w t) 8 n l s)) (μ 0 14).toNat 0 = fs3 (fun s => mEL μ k w t s (mV μ 7 n l s)) (μ 0 14).toNat 0 := fs3_congr _ _ (fun s c d => by rw [lawW_V h _ _ _ _ _ _ hk (by omega) (by omega), lawW_En h _ _ _ _ _ hk (by omega)])
  rw [e]
theorem lawW_MB {μ α : Mem} (hB : MB α) (k w t : Int) : MB (lawW α k w t) := MB_of hB (lawW_c _ _ _ _ _ (by decide)) (lawW_c _ _ _ _ _ (by decide)) (lawW_c _ _ _ _ _ (by decide)) (lawW_c _ _ _ _ _ (by decide))
theorem lawW_RB {α : Mem} (hR : RB α 8) (k w t : Int) (hk : 0 ≤ k ∧ k < 4) (h14 : α 0 14 ≤ 4 ∧ α 0 15 ≤ 4) : RB (lawW α k w t) 8 := by
  refine ⟨hR.1, fun l s a b c d => ?_⟩
  rw [lawW_c α k w t 0 (by decide)] at b d
  rw [lawW_c α k w t 2 (by decide), lawW_j _ _ _ _ _ (by omega)]
  exact hR.2 l s a b c d

set_option maxRecDepth 100000 in
set_option maxHeartbeats 4000000 in
theorem X7_freed (μ0 μ : Mem) (hμ : μ = th μ0) (hB : MB μ) (hy : 0 ≤ μ 7 24 ∧ μ 7 24 ≤ 1000) (hj : 0 ≤ μ 7 25 ∧ μ 7 25 ≤ 100000) (s w t : Int) : CT TM md_X7_freed [aR 0, aI s, aI w, aI t] μ0 (fun rv μ1 => (∀ c : Nat, c ≠ 8 → μ1 c = μ c) ∧ rv = some (aI (if (0 ≤ s ∧ s < μ 0 14) ∧ (0 ≤ w ∧ w ≤ 3) ∧ (1 ≤ t ∧ t ≤ μ 2 s) then yY μ (mEn μ 7) 7 - yY μ (mEL μ s w t) 7 else -1000000))) := by
  refine CT.of (Nat.le_of_ble_eq_true rfl) (by decide) rfl (Nat.le_of_ble_eq_true rfl) (fun X hG hX => ?_)
  have hG : G TM X RX7 cX7_freed 5 6 137 (some .int) := hG
  show J TM X 5 0 [some (aR 0), some (aI s), some (aI w), some (aI t), none] [] μ0
  refine J.aload_n hG dX7_freed_0 rfl rfl ?_
  refine J.iconst hG dX7_freed_1 (by decide) ?_
  refine J.putI hG ciX7 rfl 0 0 rfl (Nat.le_of_ble_eq_true rfl) rfl fl_X7_75 rfl rfl dX7_freed_2 ?_
  show J TM X 5 5 [some (aR 0), some (aI s), some (aI w), some (aI t), none] [] (th μ0)
  rw [← hμ]
  have hB2 := hB
  obtain ⟨h1, h2, h3, h4, h5, h6⟩ := hB2
  refine J.aload_n hG dX7_freed_5 rfl rfl ?_
  refine J.iload_n hG dX7_freed_6 rfl rfl ?_
  refine J.iload_n hG dX7_freed_7 rfl rfl ?_
  refine J.iload_n hG dX7_freed_8 rfl rfl ?_
  refine J.callV hG (X7_isLaw _ hB _ _ _) ok_X7_isLaw ml_X7_194 rfl rfl rfl rfl (Nat.le_of_ble_eq_true rfl) ⟨Nat.le_of_ble_eq_true rfl, Nat.le_of_ble_eq_true rfl⟩ dX7_freed_9 rfl (fun r1 μ1 hp1 => ?_)
  obtain ⟨rfl, rfl⟩ := hp1
  refine J.ifb_ne hG 18 dX7_freed_12 rfl (fun h12 => ?_) (fun h12 => ?_)
  · have q1 := yY_bound μ (mEn μ 7) 7 h2
    have q2 := yY_bound μ (mEL μ s w t) 7 h2
    refine J.aload_n hG dX7_freed_18 rfl rfl ?_
    refine J.callV hG (X7_asNow _) ok_X7_asNow ml_X7_211 rfl rfl rfl rfl (Nat.le_of_ble_eq_true rfl) ⟨Nat.le_of_ble_eq_true rfl, Nat.le_of_ble_eq_true rfl⟩ dX7_freed_19 rfl (fun r1 α hp1 => ?_)
    obtain ⟨rfl, an1, an2⟩ := hp1
    have han : AsN μ α := ⟨an1, an2⟩
    have hBa := AsN_MB hB han
    have hRa := AsN_RB hB han
    have ea24 := an2 24 (by decide) (by decide)
    have ea25 := an2 25 (by decide) (by decide)
    refine J.aload_n hG dX7_freed_22 rfl rfl ?_
    refine J.callV hG (X7_unlawfulYears _ hBa hRa (by omega) (by omega)) ok_X7_unlawfulYears ml_X7_215 rfl rfl rfl rfl (Nat.le_of_ble_eq_true rfl) ⟨Nat.le_of_ble_eq_true rfl, Nat.le_of_ble_eq_true rfl⟩ dX7_freed_23 rfl (fun r1 ν1 hp1 => ?_)
    obtain ⟨un1, rfl⟩ := hp1
    rw [AsN_yY hB han (fun s v a b => AsN_En han s v (by omega))]
    refine J.istore hG dX7_freed_26 (Nat.le_of_ble_eq_true rfl) ?_
    refine J.aload_n hG dX7_freed_28 rfl rfl ?_
    refine J.callV hG (X7_asNow _) ok_X7_asNow ml_X7_211 rfl rfl rfl rfl (Nat.le_of_ble_eq_true rfl) ⟨Nat.le_of_ble_eq_true rfl, Nat.le_of_ble_eq_true rfl⟩ dX7_freed_29 rfl (fun r1 β hp1 => ?_)
    obtain ⟨rfl, bn1, bn2⟩ := hp1
    have f1 : ∀ c : Nat, c ≠ 8 → β c = μ c := fun c hc => by rw [bn1 c hc, un1 c hc, an1 c hc]
    have hbn : AsN μ β := ⟨f1, fun j a b => by rw [bn2 j a b, un1 7 (by decide), an1 7 (by decide)]⟩
    have hBb := AsN_MB hB hbn
    have hRb := AsN_RB hB hbn
    have eb24 := hbn.2 24 (by decide) (by decide)
    have eb25 := hbn.2 25 (by decide) (by decide)
    have eb0 : β 0 = μ 0 := f1 0 (by decide)
    have hBw := lawW_MB (μ := μ) hBb s w t
    have hRw := lawW_RB hRb s w t (by omega) (by rw [eb0]; omega)
    have ew24 : lawW β s w t 8 24 = β 8 24 := lawW_j _ _ _ _ _ (by omega)
    have ew25 : lawW β s w t 8 25 = β 8 25 := lawW_j _ _ _ _ _ (by omega)
    refine J.aload_n hG dX7_freed_32 rfl rfl ?_
    refine J.getR hG ciX7 rfl 23 23 rfl (Nat.le_of_ble_eq_true rfl) rfl fl_X7_31 dX7_freed_33 ?_
    refine J.iconst hG dX7_freed_36 (by decide) ?_
    refine J.iload_n hG dX7_freed_37 rfl rfl ?_
    refine J.imul hG dX7_freed_38 (fun _ _ => (by omega)) ?_
    refine J.iload_n hG dX7_freed_39 rfl rfl ?_
    refine J.iast hG rfl (by omega) (by omega) dX7_freed_40 ?_
    refine J.aload_n hG dX7_freed_41 rfl rfl ?_
    refine J.getR hG ciX7 rfl 23 23 rfl (Nat.le_of_ble_eq_true rfl) rfl fl_X7_31 dX7_freed_42 ?_
    refine J.iconst hG dX7_freed_45 (by decide) ?_
    refine J.iload_n hG dX7_freed_46 rfl rfl ?_
    refine J.imul hG dX7_freed_47 (fun _ _ => (by omega)) ?_
    refine J.iconst hG dX7_freed_48 (by decide) ?_
    refine J.iadd hG dX7_freed_49 (fun _ _ => (by omega)) ?_
    refine J.iload_n hG dX7_freed_50 rfl rfl ?_
    refine J.iast hG rfl (by omega) (by omega) dX7_freed_51 ?_
    refine J.iload hG dX7_freed_52 rfl ?_
    refine J.aload_n hG dX7_freed_54 rfl rfl ?_
    refine J.callV hG (X7_unlawfulYears (lawW β s w t) hBw hRw (by omega) (by omega)) ok_X7_unlawfulYears ml_X7_215 rfl rfl rfl rfl (Nat.le_of_ble_eq_true rfl) ⟨Nat.le_of_ble_eq_true rfl, Nat.le_of_ble_eq_true rfl⟩ dX7_freed_55 rfl (fun r1 ν2 hp1 => ?_)
    obtain ⟨vn1, rfl⟩ := hp1
    rw [lawW_yY hB hbn s w t (by omega)]
    refine J.isub hG dX7_freed_58 (fun _ _ => (by omega)) ?_
    refine J.iret hG dX7_freed_59 ?_
    rw [hX]; dsimp only
    exact ⟨fun c hc => by rw [vn1 c hc, lawW_c _ _ _ _ _ hc, f1 c hc], by rw [if_pos (by omega)]⟩
  · refine J.ldc hG (n := -1000000) dX7_freed_15 ct_X7_214 (by decide) (by decide) ?_
    refine J.iret hG dX7_freed_17 ?_
    rw [hX]; dsimp only
    exact ⟨fun _ _ => rfl, by rw [if_neg (by omega)]⟩


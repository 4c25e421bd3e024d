def mV (μ : Mem) (c : Nat) (n l s : Int) : Int := cl (μ 2 s) (μ c (8 + 4 * l + s) + n * (μ 5 (4 * l + s) - 3))
def mJc (μ : Mem) (c : Nat) (y : Int) : Int := smf (fun l => smf (fun s => if mEn μ c s (mV μ c (y + 1) l s) = mEn μ c s (mV μ c y l s) then 0 else 1) 0 (μ 0 14).toNat) 0 (μ 0 15).toNat
def MGoN (c : Nat) (μ : Mem) (n : Int) (ν : Mem) : Prop := (∀ d : Nat, d ≠ c → ν d = μ d) ∧ (∀ j : Int, 0 ≤ j → j < 8 → ν c j = μ c j) ∧ ν c 24 = μ c 24 + n ∧ ν c 25 = μ c 25 + smf (fun y => mJc μ c y) 0 n.toNat ∧ ∀ l s : Int, 0 ≤ l → l < μ 0 15 → 0 ≤ s → s < μ 0 14 → ν c (8 + 4 * l + s) = mV μ c n l s
theorem MB_of {μ ν : Mem} (h : MB μ) (e0 : ν 0 = μ 0) (e2 : ν 2 = μ 2) (e5 : ν 5 = μ 5) (e7 : ν 7 = μ 7) : MB ν := by
  unfold MB
  rw [e0, e2, e5, e7]
  exact h
theorem mV_bd {μ : Mem} (hB : MB μ) (c : Nat) (n l s : Int) (hs : 0 ≤ s ∧ s < μ 0 14) : 0 ≤ mV μ c n l s ∧ mV μ c n l s ≤ μ 2 s := by
  have := hB.2.2.2.2.1 s hs.1 hs.2
  exact cl_bound (by omega)
theorem MGoN_RB {c : Nat} {μ ν : Mem} {n : Int} (hB : MB μ) (hR : RB μ c) (h : MGoN c μ n ν) : RB ν c := by
  have hc := hR.1
  refine ⟨hc, fun l s a b c' d => ?_⟩
  rw [h.1 0 (Ne.symm hc.2.1)] at b d
  rw [h.1 2 (Ne.symm hc.2.2.1), h.2.2.2.2 l s a b c' d]
  exact mV_bd hB c n l s ⟨c', d⟩
theorem MGoN_MB {c : Nat} {μ ν : Mem} {n : Int} (hc : c = 7 ∨ c = 8) (hB : MB μ) (hR : RB μ c) (h : MGoN c μ n ν) : MB ν := by
  rcases hc with rfl | rfl
  · have hR2 := MGoN_RB hB hR h
    have e0 := h.1 0 (by decide)
    have e2 := h.1 2 (by decide)
    have e5 := h.1 5 (by decide)
    obtain ⟨h1, h2, h3, h4, h5, h6⟩ := hB
    unfold MB
    rw [e0, e2, e5]
    refine ⟨h1, h2, h3, h4, h5, fun l s a b c d => ?_⟩
    have q := h6 l s a b c d
    have r := hR2.2 l s a (by rw [e0]; exact b) c (by rw [e0]; exact d)
    rw [e2] at r
    exact ⟨q.1, q.2.1, r.1, r.2⟩
  · exact MB_of hB (h.1 0 (by decide)) (h.1 2 (by decide)) (h.1 5 (by decide)) (h.1 7 (by decide))
theorem MGoN_0 {c : Nat} {μ : Mem} (hR : RB μ c) : MGoN c μ 0 μ := ⟨fun _ _ => rfl, fun _ _ _ => rfl, by omega, by simp [smf], fun l s a b c' d => by
  have q := hR.2 l s a b c' d
  unfold mV cl
  rw [Int.zero_mul, Int.add_zero, if_neg (by omega), if_neg (by omega)]⟩
theorem MGoN_En {c : Nat} {μ ν : Mem} {n : Int} (hc : c ≠ 2) (h : MGoN c μ n ν) (k v : Int) (hk : 0 ≤ k ∧ k < 4) : mEn ν c k v = mEn μ c k v := by
  unfold mEn
  rw [h.1 2 (Ne.symm hc), h.2.1 (2 * k) (by omega) (by omega), h.2.1 (2 * k + 1) (by omega) (by omega)]
theorem MGoN_V1 {c : Nat} {μ ν : Mem} {n : Int} (hB : MB μ) (hR : RB μ c) (hn : 0 ≤ n) (h : MGoN c μ n ν) (l s : Int) (hl : 0 ≤ l ∧ l < μ 0 15) (hs : 0 ≤ s ∧ s < μ 0 14) : mV1 ν c l s = mV μ c (n + 1) l s := by
  have hc := hR.1
  have q5 := hB.2.2.2.2.1 s hs.1 hs.2
  have q6 := hR.2 l s hl.1 hl.2 hs.1 hs.2
  unfold mV1
  rw [h.1 2 (Ne.symm hc.2.2.1), h.1 5 (Ne.symm hc.2.2.2), h.2.2.2.2 l s hl.1 hl.2 hs.1 hs.2]
  have e := cl_step (r := μ 2 s) (v := μ c (8 + 4 * l + s)) (d := μ 5 (4 * l + s) - 3) n (by omega) q6 hn
  unfold mV
  rw [← e]
  congr 1
  omega
theorem MGoN_succ {c : Nat} {μ ν ν1 : Mem} {n : Int} (hB : MB μ) (hR : RB μ c) (hn : 0 ≤ n) (h : MGoN c μ n ν) (g : MGo c ν ν1) : MGoN c μ (n + 1) ν1 := by
  have hc := hR.1
  have e0 := h.1 0 (Ne.symm hc.2.1)
  have hb1 := hB.1
  refine ⟨fun d hd => by rw [g.1 d hd, h.1 d hd], fun j a b => by rw [g.2.1 j a b, h.2.1 j a b], by rw [g.2.2.1, h.2.2.1]; omega, ?_, fun l s a b c' d => ?_⟩
  · rw [g.2.2.2.1, h.2.2.2.1, show (n + 1).toNat = n.toNat + 1 by omega, smf_last]
    have e1 : (0 : Int) + (n.toNat : Int) = n := by omega
    have e2 : mJn ν c = mJc μ c n := by
      unfold mJn mJc
      rw [e0]
      refine smf_congr _ _ (fun l a b => smf_congr _ _ (fun s c' d => ?_))
      have h9 := hB.2.1
      rw [MGoN_V1 hB hR hn h l s (by omega) (by omega), MGoN_En hc.2.2.1 h s _ (by omega)]
      unfold mE
      rw [MGoN_En hc.2.2.1 h s _ (by omega), h.2.2.2.2 l s (by omega) (by omega) (by omega) (by omega)]
    rw [e1, e2]
    omega
  · rw [g.2.2.2.2 l s a (by rw [e0]; exact b) c' (by rw [e0]; exact d)]
    exact MGoN_V1 hB hR hn h l s ⟨a, b⟩ ⟨c', d⟩
theorem mJc_bound (μ : Mem) (c : Nat) (y : Int) (h1 : 0 ≤ μ 0 14 ∧ μ 0 14 ≤ 4) (h2 : 0 ≤ μ 0 15 ∧ μ 0 15 ≤ 4) : 0 ≤ mJc μ c y ∧ mJc μ c y ≤ 16 := by
  have := smf_bound (f := fun l => smf (fun s => if mEn μ c s (mV μ c (y + 1) l s) = mEn μ c s (mV μ c y l s) then 0 else 1) 0 (μ 0 14).toNat) (a := 0) (b := 4) (μ 0 15).toNat 0 (fun i _ _ => by
    have := smf_bound (f := fun s => if mEn μ c s (mV μ c (y + 1) i s) = mEn μ c s (mV μ c y i s) then 0 else 1) (a := 0) (b := 1) (μ 0 14).toNat 0 (fun i _ _ => by constructor <;> split <;> omega)
    omega)
  unfold mJc
  omega
theorem MGoN_jb {c : Nat} {μ ν : Mem} {n : Int} (hB : MB μ) (hn : 0 ≤ n) (h : MGoN c μ n ν) : μ c 25 ≤ ν c 25 ∧ ν c 25 ≤ μ c 25 + 16 * n := by
  have := smf_bound (f := fun y => mJc μ c y) (a := 0) (b := 16) n.toNat 0 (fun i _ _ => mJc_bound μ c i hB.1 hB.2.1)
  rw [h.2.2.2.1]
  omega
/-- the row w is the row of now -/
def AsN (μ ν : Mem) : Prop := (∀ c : Nat, c ≠ 8 → ν c = μ c) ∧ ∀ j : Int, 0 ≤ j → j < 26 → ν 8 j = μ 7 j
theorem AsN_MB {μ ν : Mem} (hB : MB μ) (h : AsN μ ν) : MB ν := MB_of hB (h.1 0 (by decide)) (h.1 2 (by decide)) (h.1 5 (by decide)) (h.1 7 (by decide))
theorem AsN_RB {μ ν : Mem} (hB : MB μ) (h : AsN μ ν) : RB ν 8 := by
  refine ⟨⟨rfl, by decide, by decide, by decide⟩, fun l s a b c d => ?_⟩
  have e0 := h.1 0 (by decide)
  have g1 := hB.1
  have g2 := hB.2.1
  rw [e0] at b d
  rw [h.2 _ (by omega) (by omega), h.1 2 (by decide)]
  exact (MB_RB hB).2 l s a b c d
theorem AsN_En {μ ν : Mem} (h : AsN μ ν) (k v : Int) (hk : 0 ≤ k ∧ k < 4) : mEn ν 8 k v = mEn μ 7 k v := by
  unfold mEn
  rw [h.1 2 (by decide), h.2 (2 * k) (by omega) (by omega), h.2 (2 * k + 1) (by omega) (by omega)]
theorem AsN_V {μ ν : Mem} (h : AsN μ ν) (n l s : Int) (hl : 0 ≤ l ∧ l < 4) (hs : 0 ≤ s ∧ s < 4) : mV ν 8 n l s = mV μ 7 n l s := by
  unfold mV
  rw [h.1 2 (by decide), h.1 5 (by decide), h.2 _ (by omega) (by omega)]
/-- the end of a life on a scale n years behind now -/
def mEy (μ : Mem) (n l s : Int) : Int := mEn μ 7 s (mV μ 7 n l s)
def mUy (μ : Mem) (n l : Int) : Int := fs3 (fun s => mEy μ n l s) (μ 0 14).toNat 0
theorem wE {μ α ν : Mem} {n : Int} (hB : MB μ) (ha : AsN μ α) (h : MGoN 8 α n ν) (l s : Int) (hl : 0 ≤ l ∧ l < μ 0 15) (hs : 0 ≤ s ∧ s < μ 0 14) : mE ν 8 l s = mEy μ n l s := by
  have e0 := ha.1 0 (by decide)
  have g1 := hB.1
  have g2 := hB.2.1
  unfold mE mEy
  rw [MGoN_En (by decide) h _ _ (by omega), AsN_En ha _ _ (by omega), h.2.2.2.2 l s hl.1 (by rw [e0]; exact hl.2) hs.1 (by rw [e0]; exact hs.2), AsN_V ha _ _ _ (by omega) (by omega)]
theorem wU {μ α ν : Mem} {n : Int} (hB : MB μ) (ha : AsN μ α) (h : MGoN 8 α n ν) (l : Int) (hl : 0 ≤ l ∧ l < μ 0 15) : mU ν 8 l = mUy μ n l := by
  unfold mU mUy
  rw [h.1 0 (by decide), ha.1 0 (by decide)]
  refine fs3_congr _ _ (fun s a b => ?_)
  have g1 := hB.1
  exact wE hB ha h l s hl (by omega)

set_option maxRecDepth 100000 in
set_option maxHeartbeats 4000000 in
theorem X7_behind (μ0 μ : Mem) (hμ : μ = th μ0) (hB : MB μ) (hy : 0 ≤ μ 7 24 ∧ μ 7 24 ≤ 1000) (hj : 0 ≤ μ 7 25 ∧ μ 7 25 ≤ 100000) (n l s : Int) : CT TM md_X7_behind [aR 0, aI n, aI l, aI s] μ0 (fun rv μ1 => (∀ c : Nat, c ≠ 8 → μ1 c = μ c) ∧ rv = some (aI (if (0 ≤ n ∧ n ≤ 60) ∧ (0 ≤ l ∧ l < μ 0 15) ∧ (0 ≤ s ∧ s < μ 0 14) then mEy μ n l s else -1))) := by
  refine CT.of (Nat.le_of_ble_eq_true rfl) (by decide) rfl (Nat.le_of_ble_eq_true rfl) (fun X hG hX => ?_)
  have hG : G TM X RX7 cX7_behind 5 4 94 (some .int) := hG
  show J TM X 5 0 [some (aR 0), some (aI n), some (aI l), some (aI s), none] [] μ0
  refine J.aload_n hG dX7_behind_0 rfl rfl ?_
  refine J.iconst hG dX7_behind_1 (by decide) ?_
  refine J.putI hG ciX7 rfl 0 0 rfl (Nat.le_of_ble_eq_true rfl) rfl fl_X7_75 rfl rfl dX7_behind_2 ?_
  show J TM X 5 5 [some (aR 0), some (aI n), some (aI l), some (aI s), none] [] (th μ0)
  rw [← hμ]
  have hB2 := hB
  obtain ⟨h1, h2, h3, h4, h5, h6⟩ := hB2
  refine J.iload_n hG dX7_behind_5 rfl rfl ?_
  refine J.iconst hG dX7_behind_6 (by decide) ?_
  refine J.bipush hG dX7_behind_7 (by decide) (by decide) ?_
  refine J.callS hG (X7_in _ _ _ _) ok_X7_in ml_X7_78 rfl (Nat.le_of_ble_eq_true rfl) ⟨Nat.le_of_ble_eq_true rfl, Nat.le_of_ble_eq_true rfl⟩ dX7_behind_9 rfl (fun r1 μ1 hp1 => ?_)
  obtain ⟨rfl, rfl⟩ := hp1
  refine J.ifb_eq hG 31 dX7_behind_12 rfl (fun h12 => ?_) (fun h12 => ?_)
  · refine J.iconst hG dX7_behind_31 (by decide) ?_
    refine J.iret hG dX7_behind_32 ?_
    rw [hX]; dsimp only
    exact ⟨fun _ _ => rfl, by rw [if_neg (by omega)]⟩
  · refine J.aload_n hG dX7_behind_15 rfl rfl ?_
    refine J.iload_n hG dX7_behind_16 rfl rfl ?_
    refine J.callV hG (X7_isLife _ _ (by omega)) ok_X7_isLife ml_X7_171 rfl rfl rfl rfl (Nat.le_of_ble_eq_true rfl) ⟨Nat.le_of_ble_eq_true rfl, Nat.le_of_ble_eq_true rfl⟩ dX7_behind_17 rfl (fun r1 μ1 hp1 => ?_)
    obtain ⟨rfl, rfl⟩ := hp1
    refine J.ifb_eq hG 31 dX7_behind_20 rfl (fun h20 => ?_) (fun h20 => ?_)
    · refine J.iconst hG dX7_behind_31 (by decide) ?_
      refine J.iret hG dX7_behind_32 ?_
      rw [hX]; dsimp only
      exact ⟨fun _ _ => rfl, by rw [if_neg (by omega)]⟩
    · refine J.aload_n hG dX7_behind_23 rfl rfl ?_
      refine J.iload_n hG dX7_behind_24 rfl rfl ?_
      refine J.callV hG (X7_isScale _ _ (by omega)) ok_X7_isScale ml_X7_159 rfl rfl rfl rfl (Nat.le_of_ble_eq_true rfl) ⟨Nat.le_of_ble_eq_true rfl, Nat.le_of_ble_eq_true rfl⟩ dX7_behind_25 rfl (fun r1 μ1 hp1 => ?_)
      obtain ⟨rfl, rfl⟩ := hp1
      refine J.ifb_ne hG 33 dX7_behind_28 rfl (fun h28 => ?_) (fun h28 => ?_)
      · refine J.aload_n hG dX7_behind_33 rfl rfl ?_
        refine J.callV hG (X7_asNow _) ok_X7_asNow ml_X7_211 rfl rfl rfl rfl (Nat.le_of_ble_eq_true rfl) ⟨Nat.le_of_ble_eq_true rfl, Nat.le_of_ble_eq_true rfl⟩ dX7_behind_34 rfl (fun r1 α hp1 => ?_)
        obtain ⟨rfl, an1, an2⟩ := hp1
        have han : AsN μ α := ⟨an1, an2⟩
        have hBa := AsN_MB hB han
        have hRa := AsN_RB hB han
        have ea24 := an2 24 (by decide) (by decide)
        have ea25 := an2 25 (by decide) (by decide)
        have ea0 : α 0 = μ 0 := an1 0 (by decide)
        refine J.iconst hG dX7_behind_37 (by decide) ?_
        refine J.istore hG dX7_behind_38 (Nat.le_of_ble_eq_true rfl) ?_
        have lp : ∀ (k : Nat) (e : Int) (ν : Mem), 0 ≤ e → e + k = n → (MGoN 8 α e ν) → J TM X 5 40 [some (aR 0), some (aI n), some (aI l), some (aI s), some (aI e)] [] ν := by
          intro k
          induction k with
          | zero =>
            intro e ν i0 i1 hI
            have f24 := hI.2.2.1
            have jb := MGoN_jb hBa (by omega) hI
            have fr : ∀ c : Nat, c ≠ 8 → ν c = μ c := fun c hc => by rw [hI.1 c hc, an1 c hc]
            have e0 : ν 0 = μ 0 := fr 0 (by decide)
            have e14 : ν 0 14 = μ 0 14 := by rw [e0]
            have e15 : ν 0 15 = μ 0 15 := by rw [e0]
            have hRn := MGoN_RB hBa hRa hI
            have en : e = n := by omega
            have qw := hRn.2 l s (by omega) (by omega) (by omega) (by omega)
            have q5 := h5 s (by omega) (by omega)
            rw [fr 2 (by decide)] at qw
            refine J.iload hG dX7_behind_40 rfl ?_
            refine J.iload_n hG dX7_behind_42 rfl rfl ?_
            refine J.icmp_ge hG 60 dX7_behind_43 rfl (fun h43 => ?_) (fun h43 => absurd h43 (by omega))
            refine J.aload_n hG dX7_behind_60 rfl rfl ?_
            refine J.aload_n hG dX7_behind_61 rfl rfl ?_
            refine J.getR hG ciX7 rfl 23 23 rfl (Nat.le_of_ble_eq_true rfl) rfl fl_X7_31 dX7_behind_62 ?_
            refine J.iload_n hG dX7_behind_65 rfl rfl ?_
            refine J.iload_n hG dX7_behind_66 rfl rfl ?_
            refine J.callV hG (X7_endIn _ _ rfl _ _ (by omega) (by omega) (by omega)) ok_X7_endIn ml_X7_174 rfl rfl rfl rfl (Nat.le_of_ble_eq_true rfl) ⟨Nat.le_of_ble_eq_true rfl, Nat.le_of_ble_eq_true rfl⟩ dX7_behind_67 rfl (fun r1 μ1 hp1 => ?_)
            obtain ⟨rfl, rfl⟩ := hp1
            refine J.iret hG dX7_behind_70 ?_
            rw [hX]; dsimp only
            exact ⟨fr, by rw [if_pos (by omega), wE hB han hI l s (by omega) (by omega), en]⟩
          | succ k ih =>
            intro e ν i0 i1 hI
            have f24 := hI.2.2.1
            have jb := MGoN_jb hBa (by omega) hI
            have fr : ∀ c : Nat, c ≠ 8 → ν c = μ c := fun c hc => by rw [hI.1 c hc, an1 c hc]
            have e0 : ν 0 = μ 0 := fr 0 (by decide)
            have e14 : ν 0 14 = μ 0 14 := by rw [e0]
            have e15 : ν 0 15 = μ 0 15 := by rw [e0]
            have hRn := MGoN_RB hBa hRa hI
            refine J.iload hG dX7_behind_40 rfl ?_
            refine J.iload_n hG dX7_behind_42 rfl rfl ?_
            refine J.icmp_ge hG 60 dX7_behind_43 rfl (fun h43 => absurd h43 (by omega)) (fun h43 => ?_)
            refine J.aload_n hG dX7_behind_46 rfl rfl ?_
            refine J.aload_n hG dX7_behind_47 rfl rfl ?_
            refine J.getR hG ciX7 rfl 23 23 rfl (Nat.le_of_ble_eq_true rfl) rfl fl_X7_31 dX7_behind_48 ?_
            refine J.callV hG (X7_goes_8 _ (MGoN_MB (Or.inr rfl) hBa hRa hI) (MGoN_RB hBa hRa hI) (by omega) (by omega)) ok_X7_goes ml_X7_186 rfl rfl rfl rfl (Nat.le_of_ble_eq_true rfl) ⟨Nat.le_of_ble_eq_true rfl, Nat.le_of_ble_eq_true rfl⟩ dX7_behind_51 rfl (fun r1 ν1 hp1 => ?_)
            obtain ⟨rfl, hg⟩ := hp1
            refine J.iinc hG dX7_behind_54 (Nat.le_of_ble_eq_true rfl) rfl (fun _ => (by omega)) ?_
            refine J.goto hG 40 dX7_behind_57 rfl ?_
            exact ih (e + 1) _ (by omega) (by omega) (MGoN_succ hBa hRa (by omega) hI hg)
        exact lp n.toNat 0 _ (Int.le_refl _) (by omega) (MGoN_0 hRa)
      · refine J.iconst hG dX7_behind_31 (by decide) ?_
        refine J.iret hG dX7_behind_32 ?_
        rw [hX]; dsimp only
        exact ⟨fun _ _ => rfl, by rw [if_neg (by omega)]⟩

set_option maxRecDepth 100000 in
set_option maxHeartbeats 4000000 in
theorem X7_first (μ0 μ : Mem) (hμ : μ = th μ0) (hB : MB μ) (hy : 0 ≤ μ 7 24 ∧ μ 7 24 ≤ 1000) (hj : 0 ≤ μ 7 25 ∧ μ 7 25 ≤ 100000) (l w : Int) : CT TM md_X7_first [aR 0, aI l, aI w] μ0 (fun rv μ1 => (∀ c : Nat, c ≠ 8 → μ1 c = μ c) ∧ rv = some (aI (if (0 ≤ l ∧ l < μ 0 15) ∧ (0 ≤ w ∧ w ≤ 1) then fN (fun n => mUy μ n l) w 61 0 else -1))) := by
  refine CT.of (Nat.le_of_ble_eq_true rfl) (by decide) rfl (Nat.le_of_ble_eq_true rfl) (fun X hG hX => ?_)
  have hG : G TM X RX7 cX7_first 5 4 94 (some .int) := hG
  show J TM X 5 0 [some (aR 0), some (aI l), some (aI w), none, none] [] μ0
  refine J.aload_n hG dX7_first_0 rfl rfl ?_
  refine J.iconst hG dX7_first_1 (by decide) ?_
  refine J.putI hG ciX7 rfl 0 0 rfl (Nat.le_of_ble_eq_true rfl) rfl fl_X7_75 rfl rfl dX7_first_2 ?_
  show J TM X 5 5 [some (aR 0), some (aI l), some (aI w), none, none] [] (th μ0)
  rw [← hμ]
  have hB2 := hB
  obtain ⟨h1, h2, h3, h4, h5, h6⟩ := hB2
  refine J.aload_n hG dX7_first_5 rfl rfl ?_
  refine J.iload_n hG dX7_first_6 rfl rfl ?_
  refine J.callV hG (X7_isLife _ _ (by omega)) ok_X7_isLife ml_X7_171 rfl rfl rfl rfl (Nat.le_of_ble_eq_true rfl) ⟨Nat.le_of_ble_eq_true rfl, Nat.le_of_ble_eq_true rfl⟩ dX7_first_7 rfl (fun r1 μ1 hp1 => ?_)
  obtain ⟨rfl, rfl⟩ := hp1
  refine J.ifb_eq hG 22 dX7_first_10 rfl (fun h10 => ?_) (fun h10 => ?_)
  · refine J.iconst hG dX7_first_22 (by decide) ?_
    refine J.iret hG dX7_first_23 ?_
    rw [hX]; dsimp only
    exact ⟨fun _ _ => rfl, by rw [if_neg (by omega)]⟩
  · refine J.iload_n hG dX7_first_13 rfl rfl ?_
    refine J.iconst hG dX7_first_14 (by decide) ?_
    refine J.iconst hG dX7_first_15 (by decide) ?_
    refine J.callS hG (X7_in _ _ _ _) ok_X7_in ml_X7_78 rfl (Nat.le_of_ble_eq_true rfl) ⟨Nat.le_of_ble_eq_true rfl, Nat.le_of_ble_eq_true rfl⟩ dX7_first_16 rfl (fun r1 μ1 hp1 => ?_)
    obtain ⟨rfl, rfl⟩ := hp1
    refine J.ifb_ne hG 24 dX7_first_19 rfl (fun h19 => ?_) (fun h19 => ?_)
    · refine J.aload_n hG dX7_first_24 rfl rfl ?_
      refine J.callV hG (X7_asNow _) ok_X7_asNow ml_X7_211 rfl rfl rfl rfl (Nat.le_of_ble_eq_true rfl) ⟨Nat.le_of_ble_eq_true rfl, Nat.le_of_ble_eq_true rfl⟩ dX7_first_25 rfl (fun r1 α hp1 => ?_)
      obtain ⟨rfl, an1, an2⟩ := hp1
      have han : AsN μ α := ⟨an1, an2⟩
      have hBa := AsN_MB hB han
      have hRa := AsN_RB hB han
      have ea24 := an2 24 (by decide) (by decide)
      have ea25 := an2 25 (by decide) (by decide)
      have ea0 : α 0 = μ 0 := an1 0 (by decide)
      refine J.iconst hG dX7_first_28 (by decide) ?_
      refine J.istore_n hG dX7_first_29 rfl (Nat.le_of_ble_eq_true rfl) ?_
      have lp : ∀ (k : Nat) (n : Int) (ν : Mem), 0 ≤ n → n + k = 61 → (MGoN 8 α n ν) → (fN (fun n => mUy μ n l) w k n = fN (fun n => mUy μ n l) w 61 0) → J TM X 5 30 [some (aR 0), some (aI l), some (aI w), some (aI n), none] [] ν := by
        intro k
        induction k with
        | zero =>
          intro n ν i0 i1 hI i2
          have f24 := hI.2.2.1
          have jb := MGoN_jb hBa (by omega) hI
          have fr : ∀ c : Nat, c ≠ 8 → ν c = μ c := fun c hc => by rw [hI.1 c hc, an1 c hc]
          have e0 : ν 0 = μ 0 := fr 0 (by decide)
          have e14 : ν 0 14 = μ 0 14 := by rw [e0]
          have e15 : ν 0 15 = μ 0 15 := by rw [e0]
          have hRn := MGoN_RB hBa hRa hI
          refine J.iload_n hG dX7_first_30 rfl rfl ?_
          refine J.bipush hG dX7_first_31 (by decide) (by decide) ?_
          refine J.icmp_ge hG 79 dX7_first_33 rfl (fun h33 => ?_) (fun h33 => absurd h33 (by omega))
          refine J.bipush hG dX7_first_79 (by decide) (by decide) ?_
          refine J.iret hG dX7_first_81 ?_
          rw [hX]; dsimp only
          exact ⟨fr, by rw [if_pos (by omega), ← i2]; rfl⟩
        | succ k ih =>
          intro n ν i0 i1 hI i2
          have f24 := hI.2.2.1
          have jb := MGoN_jb hBa (by omega) hI
          have fr : ∀ c : Nat, c ≠ 8 → ν c = μ c := fun c hc => by rw [hI.1 c hc, an1 c hc]
          have e0 : ν 0 = μ 0 := fr 0 (by decide)
          have e14 : ν 0 14 = μ 0 14 := by rw [e0]
          have e15 : ν 0 15 = μ 0 15 := by rw [e0]
          have hRn := MGoN_RB hBa hRa hI
          rw [fN] at i2
          have eu := wU hB han hI l (by omega)
          refine J.iload_n hG dX7_first_30 rfl rfl ?_
          refine J.bipush hG dX7_first_31 (by decide) (by decide) ?_
          refine J.icmp_ge hG 79 dX7_first_33 rfl (fun h33 => absurd h33 (by omega)) (fun h33 => ?_)
          refine J.aload_n hG dX7_first_36 rfl rfl ?_
          refine J.aload_n hG dX7_first_37 rfl rfl ?_
          refine J.getR hG ciX7 rfl 23 23 rfl (Nat.le_of_ble_eq_true rfl) rfl fl_X7_31 dX7_first_38 ?_
          refine J.iload_n hG dX7_first_41 rfl rfl ?_
          refine J.callV hG (X7_unlawfulOn _ (MGoN_MB (Or.inr rfl) hBa hRa hI) _ hRn _ (by omega)) ok_X7_unlawfulOn ml_X7_190 rfl rfl rfl rfl (Nat.le_of_ble_eq_true rfl) ⟨Nat.le_of_ble_eq_true rfl, Nat.le_of_ble_eq_true rfl⟩ dX7_first_42 rfl (fun r1 μ1 hp1 => ?_)
          obtain ⟨rfl, rfl⟩ := hp1
          rw [eu]
          refine J.istore hG dX7_first_45 (Nat.le_of_ble_eq_true rfl) ?_
          refine J.iload hG dX7_first_47 rfl ?_
          refine J.bipush hG dX7_first_49 (by decide) (by decide) ?_
          refine J.icmp_eq hG 65 dX7_first_51 rfl (fun h51 => ?_) (fun h51 => ?_)
          · refine J.aload_n hG dX7_first_65 rfl rfl ?_
            refine J.aload_n hG dX7_first_66 rfl rfl ?_
            refine J.getR hG ciX7 rfl 23 23 rfl (Nat.le_of_ble_eq_true rfl) rfl fl_X7_31 dX7_first_67 ?_
            refine J.callV hG (X7_goes_8 _ (MGoN_MB (Or.inr rfl) hBa hRa hI) (MGoN_RB hBa hRa hI) (by omega) (by omega)) ok_X7_goes ml_X7_186 rfl rfl rfl rfl (Nat.le_of_ble_eq_true rfl) ⟨Nat.le_of_ble_eq_true rfl, Nat.le_of_ble_eq_true rfl⟩ dX7_first_70 rfl (fun r1 ν1 hp1 => ?_)
            obtain ⟨rfl, hg⟩ := hp1
            refine J.iinc hG dX7_first_73 (Nat.le_of_ble_eq_true rfl) rfl (fun _ => (by omega)) ?_
            refine J.goto hG 30 dX7_first_76 rfl ?_
            rw [if_pos h51] at i2
            exact J.drop 4 (ih (n + 1) _ (by omega) (by omega) (MGoN_succ hBa hRa (by omega) hI hg) i2)
          · refine J.iload_n hG dX7_first_54 rfl rfl ?_
            refine J.if_ne hG 62 dX7_first_55 rfl (fun h55 => ?_) (fun h55 => ?_)
            · refine J.iload hG dX7_first_62 rfl ?_
              refine J.iret hG dX7_first_64 ?_
              rw [hX]; dsimp only
              rw [if_neg h51] at i2
              exact ⟨fr, by rw [if_pos (by omega), ← i2]; congr 2; (split <;> first | rfl | (exfalso; omega))⟩
            · refine J.iload_n hG dX7_first_58 rfl rfl ?_
              refine J.goto hG 64 dX7_first_59 rfl ?_
              refine J.iret hG dX7_first_64 ?_
              rw [hX]; dsimp only
              rw [if_neg h51] at i2
              exact ⟨fr, by rw [if_pos (by omega), ← i2]; congr 2; (split <;> first | rfl | (exfalso; omega))⟩
      exact lp 61 0 _ (Int.le_refl _) (by omega) (MGoN_0 hRa) rfl
    · refine J.iconst hG dX7_first_22 (by decide) ?_
      refine J.iret hG dX7_first_23 ?_
      rw [hX]; dsimp only
      exact ⟨fun _ _ => rfl, by rw [if_neg (by omega)]⟩


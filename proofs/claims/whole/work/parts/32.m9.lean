/-! parts of a load, by the reference -/
def gM (E : Int → Int) (r : Int) (f : Int → Int) (v part c : Int) : Int := cmn c (if part ≤ r then pv E f v part else -9)
theorem ff_snoc {α : Type} {g : Int → α → α} : ∀ (k : Nat) (i : Int) (c : α), ff g (k + 1) i c = g (i + k) (ff g k i c)
  | 0, i, c => by simp [ff]
  | k + 1, i, c => by
    rw [ff, ff_snoc k (i + 1) (g i c), ff]
    congr 1
    omega
theorem fdn_in {g : Int → Int → Int} (hg : ∀ a b c, g a (g b c) = g b (g a c)) : ∀ (k : Nat) (a c : Int), fdn g k (g a c) = g a (fdn g k c)
  | 0, _, _ => rfl
  | k + 1, a, c => by rw [fdn, fdn, hg, fdn_in hg k]
theorem ff_fdn {g : Int → Int → Int} (hg : ∀ a b c, g a (g b c) = g b (g a c)) : ∀ (k : Nat) (c : Int), ff g k 1 c = fdn g k c
  | 0, _ => rfl
  | k + 1, c => by
    rw [ff_snoc, ff_fdn hg k, fdn, fdn_in hg, show (1 : Int) + k = (k : Int) + 1 by omega]
theorem cmn_cm (c x y : Int) : cmn (cmn c x) y = cmn (cmn c y) x := by unfold cmn; (repeat' split) <;> omega
theorem fdn_clip {g : Int → Int → Int} {r : Int} (hr : 0 ≤ r) (hg : ∀ p c, r < p → g p c = c) : ∀ (k : Nat) (c : Int), fdn g k c = fdn g (min (k : Int) r).toNat c
  | 0, c => by rw [show (min ((0 : Nat) : Int) r).toNat = 0 by omega]
  | k + 1, c => by
    by_cases h : r < (k : Int) + 1
    · rw [fdn, hg _ _ h, fdn_clip hr hg k, show (min ((k + 1 : Nat) : Int) r).toNat = (min (k : Int) r).toNat by omega]
    · rw [show (min ((k + 1 : Nat) : Int) r).toNat = k + 1 by omega]
theorem gM_gX {E : Int → Int} {r : Int} (hr : 0 ≤ r) {f : Int → Int} {v : Int} (hv : 0 ≤ v) : ff (gM E r f v) v.toNat 1 (-9) = gX E r f v := by
  rw [ff_fdn (fun a b c => by unfold gM; exact cmn_cm _ _ _), fdn_clip hr (fun p c h => by unfold gM cmn; rw [if_neg (show ¬ p ≤ r by omega), if_pos rfl]), gX, show (min ((v.toNat : Nat) : Int) r) = min v r by omega]
  refine fdn_congr _ _ (fun p c a b => ?_)
  unfold gM
  rw [if_pos (by omega)]
theorem ff_fl {P : Int → Int} : ∀ (k : Nat), ff (fun p c => if P p = 3 then p else c) k 1 (-9) = fl P k
  | 0 => rfl
  | k + 1 => by
    rw [ff_snoc, ff_fl k, fl, show (1 : Int) + k = (k : Int) + 1 by omega]
theorem fl_clip {P : Int → Int} {r : Int} (hr : 0 ≤ r) (hP : ∀ p, r < p → ¬ P p = 3) : ∀ (k : Nat), fl P k = fl P (min (k : Int) r).toNat
  | 0 => by rw [show (min ((0 : Nat) : Int) r).toNat = 0 by omega]
  | k + 1 => by
    by_cases h : r < (k : Int) + 1
    · rw [fl, if_neg (hP _ h), fl_clip hr hP k, show (min ((k + 1 : Nat) : Int) r).toNat = (min (k : Int) r).toNat by omega]
    · rw [show (min ((k + 1 : Nat) : Int) r).toNat = k + 1 by omega]
theorem partA_M {E : Int → Int} {r : Int} (hr : 0 ≤ r) {F : Int → Int} {d : Int} (hd : 0 ≤ d) : ff (fun p c => if (if p ≤ r ∧ ¬ E p = 3 ∧ F (d - p) = F d - 1 then (3 : Int) else 0) = 3 then p else c) d.toNat 1 (-9) = fl (fun p => if ¬ E p = 3 ∧ F (d - p) = F d - 1 then 3 else 0) (min d r).toNat := by
  rw [ff_fl, fl_clip hr (fun p h => by rw [if_neg (by omega)]; decide), show (min ((d.toNat : Nat) : Int) r) = min d r by omega]
  refine fl_congr _ (fun p a b => ?_)
  by_cases h : ¬ E p = 3 ∧ F (d - p) = F d - 1
  · rw [if_pos h, if_pos ⟨by omega, h⟩]
  · rw [if_neg h, if_neg (fun w => h w.2)]

set_option maxRecDepth 100000 in
set_option maxHeartbeats 4000000 in
theorem X7_isPart (μ : Mem) (hB : MB μ) (s v : Int) (hs : 0 ≤ s ∧ s < μ 0 14) (hv : 0 ≤ v ∧ v ≤ 99) : CT TM md_X7_isPart [aR 0, aI s, aI v] μ (fun rv μ1 => rv = some (aI (if (1 ≤ v ∧ v ≤ μ 2 s) ∧ ¬ mEn μ 7 s v = 3 then 1 else 0)) ∧ μ = μ1) := by
  refine CT.of (Nat.le_of_ble_eq_true rfl) (by decide) rfl (Nat.le_of_ble_eq_true rfl) (fun X hG hX => ?_)
  have hG : G TM X RX7 cX7_isPart 3 2 46 (some .boolean) := hG
  show J TM X 3 0 [some (aR 0), some (aI s), some (aI v)] [] μ
  have hB2 := hB
  obtain ⟨h1, h2, h3, h4, h5, h6⟩ := hB2
  have q5 := h5 s hs.1 hs.2
  refine J.iload_n hG dX7_isPart_0 rfl rfl ?_
  refine J.iconst hG dX7_isPart_1 (by decide) ?_
  refine J.aload_n hG dX7_isPart_2 rfl rfl ?_
  refine J.getR hG ciX7 rfl 9 9 rfl (Nat.le_of_ble_eq_true rfl) rfl fl_X7_13 dX7_isPart_3 ?_
  refine J.iload_n hG dX7_isPart_6 rfl rfl ?_
  refine J.iald hG rfl (by omega) (by omega) dX7_isPart_7 ?_
  refine J.callS hG (X7_in _ _ _ _) ok_X7_in ml_X7_78 rfl (Nat.le_of_ble_eq_true rfl) ⟨Nat.le_of_ble_eq_true rfl, Nat.le_of_ble_eq_true rfl⟩ dX7_isPart_8 rfl (fun r1 μ1 hp1 => ?_)
  obtain ⟨rfl, rfl⟩ := hp1
  refine J.ifb_eq hG 32 dX7_isPart_11 rfl (fun h11 => ?_) (fun h11 => ?_)
  · refine J.iconst hG dX7_isPart_32 (by decide) ?_
    refine J.zret hG (by first | exact Or.inl rfl | exact Or.inr rfl | assumption | (split <;> first | exact Or.inl rfl | exact Or.inr rfl)) dX7_isPart_33 ?_
    rw [hX]; dsimp only
    exact ⟨by congr 2; first | (rw [if_pos (by omega)]; done) | (rw [if_neg (by omega)]; done), rfl⟩
  · refine J.aload_n hG dX7_isPart_14 rfl rfl ?_
    refine J.aload_n hG dX7_isPart_15 rfl rfl ?_
    refine J.getR hG ciX7 rfl 22 22 rfl (Nat.le_of_ble_eq_true rfl) rfl fl_X7_28 dX7_isPart_16 ?_
    refine J.iload_n hG dX7_isPart_19 rfl rfl ?_
    refine J.iload_n hG dX7_isPart_20 rfl rfl ?_
    refine J.callV hG (X7_endOf _ _ rfl _ _ (by omega) (by omega)) ok_X7_endOf ml_X7_167 rfl rfl rfl rfl (Nat.le_of_ble_eq_true rfl) ⟨Nat.le_of_ble_eq_true rfl, Nat.le_of_ble_eq_true rfl⟩ dX7_isPart_21 rfl (fun r1 μ1 hp1 => ?_)
    obtain ⟨rfl, rfl⟩ := hp1
    refine J.iconst hG dX7_isPart_24 (by decide) ?_
    refine J.icmp_eq hG 32 dX7_isPart_25 rfl (fun h25 => ?_) (fun h25 => ?_)
    · refine J.iconst hG dX7_isPart_32 (by decide) ?_
      refine J.zret hG (by first | exact Or.inl rfl | exact Or.inr rfl | assumption | (split <;> first | exact Or.inl rfl | exact Or.inr rfl)) dX7_isPart_33 ?_
      rw [hX]; dsimp only
      exact ⟨by congr 2; first | (rw [if_pos (by omega)]; done) | (rw [if_neg (by omega)]; done), rfl⟩
    · refine J.iconst hG dX7_isPart_28 (by decide) ?_
      refine J.goto hG 33 dX7_isPart_29 rfl ?_
      refine J.zret hG (by first | exact Or.inl rfl | exact Or.inr rfl | assumption | (split <;> first | exact Or.inl rfl | exact Or.inr rfl)) dX7_isPart_33 ?_
      rw [hX]; dsimp only
      exact ⟨by congr 2; first | (rw [if_pos (by omega)]; done) | (rw [if_neg (by omega)]; done), rfl⟩

set_option maxRecDepth 100000 in
set_option maxHeartbeats 4000000 in
theorem X7_shares (μ : Mem) (hB : MB μ) (s d : Int) (hs : 0 ≤ s ∧ s < μ 0 14) (hd : 1 ≤ d ∧ d ≤ 99) : CT TM md_X7_shares [aR 0, aI s, aI d] μ (fun rv μ1 => rv = none ∧ XFr 20 μ μ1 ∧ ∀ z : Int, 0 ≤ z → z ≤ d → μ1 20 z = dpT (gX (mEn μ 7 s) (μ 2 s)) d.toNat z) := by
  refine CT.of (Nat.le_of_ble_eq_true rfl) (by decide) rfl (Nat.le_of_ble_eq_true rfl) (fun X hG hX => ?_)
  have hG : G TM X RX7 cX7_shares 6 3 68 none := hG
  show J TM X 6 0 [some (aR 0), some (aI s), some (aI d), none, none, none] [] μ
  have hB2 := hB
  obtain ⟨h1, h2, h3, h4, h5, h6⟩ := hB2
  have q5 := h5 s hs.1 hs.2
  have lp : ∀ (k : Nat) (v : Int) (ν : Mem), 1 ≤ v → v + k = d + 1 → (XFr 20 μ ν) → (∀ z : Int, 0 ≤ z → z < v → ν 20 z = dpT (gX (mEn μ 7 s) (μ 2 s)) (v - 1).toNat z) → J TM X 6 9 [some (aR 0), some (aI s), some (aI d), some (aI v), none, none] [] ν := by
    intro k
    induction k with
    | zero =>
      intro v ν i0 i1 hF hA
      have e0 : ν 0 = μ 0 := hF 0 (by decide)
      have e2 : ν 2 = μ 2 := hF 2 (by decide)
      have e014 : ν 0 14 = μ 0 14 := by rw [e0]
      have e2s : ν 2 s = μ 2 s := by rw [e2]
      refine J.iload_n hG dX7_shares_9 rfl rfl ?_
      refine J.iload_n hG dX7_shares_10 rfl rfl ?_
      refine J.icmp_gt hG 136 dX7_shares_11 rfl (fun h11 => ?_) (fun h11 => absurd h11 (by omega))
      refine J.vret hG dX7_shares_136 ?_
      rw [hX]; dsimp only
      refine ⟨rfl, hF, fun z a b => ?_⟩
      rw [hA z a (by omega), show (v - 1).toNat = d.toNat by omega]
    | succ k ih =>
      intro v ν i0 i1 hF hA
      have ih0 := ih
      clear ih
      have e0 : ν 0 = μ 0 := hF 0 (by decide)
      have e2 : ν 2 = μ 2 := hF 2 (by decide)
      have e014 : ν 0 14 = μ 0 14 := by rw [e0]
      have e2s : ν 2 s = μ 2 s := by rw [e2]
      obtain ⟨f, hfe⟩ : ∃ f, f = dpT (gX (mEn μ 7 s) (μ 2 s)) (v - 1).toNat := ⟨_, rfl⟩
      rw [← hfe] at hA
      have hf : ∀ z : Int, 0 ≤ z → z < v → -9 ≤ f z ∧ f z ≤ z ∧ (f z = -9 ∨ 0 ≤ f z) := fun z a b => by rw [hfe]; exact dpT_bd _ z a (by omega)
      have lp2 : ∀ (k : Nat) (p : Int) (ν : Mem), 1 ≤ p → p + k = v + 1 → (XFr 20 μ ν) → (∀ z : Int, 0 ≤ z → z < v → ν 20 z = f z) → (-9 ≤ ν 20 v ∧ ν 20 v ≤ 100) → (ff (gM (mEn μ 7 s) (μ 2 s) f v) k p (ν 20 v) = gX (mEn μ 7 s) (μ 2 s) f v) → J TM X 6 25 [some (aR 0), some (aI s), some (aI d), some (aI v), some (aI p), none] [] ν := by
        intro k
        induction k with
        | zero =>
          intro p ν i8 i9 hF hA hc i2
          have e0 : ν 0 = μ 0 := hF 0 (by decide)
          have e2 : ν 2 = μ 2 := hF 2 (by decide)
          have e014 : ν 0 14 = μ 0 14 := by rw [e0]
          have e2s : ν 2 s = μ 2 s := by rw [e2]
          simp only [ff] at i2
          refine J.iload hG dX7_shares_25 rfl ?_
          refine J.iload_n hG dX7_shares_27 rfl rfl ?_
          refine J.icmp_gt hG 130 dX7_shares_28 rfl (fun h28 => ?_) (fun h28 => absurd h28 (by omega))
          refine J.iinc hG dX7_shares_130 (Nat.le_of_ble_eq_true rfl) rfl (fun _ => (by omega)) ?_
          refine J.goto hG 9 dX7_shares_133 rfl ?_
          refine J.drop 4 (ih0 (v + 1) ν (by omega) (by omega) hF (fun z a b => ?_))
          have e : (v + 1 - 1).toNat = (v - 1).toNat + 1 := by omega
          rw [e, dpT]
          dsimp only
          by_cases hz : z = v
          · rw [if_pos (by omega), hz, i2, hfe]
            congr 1
            omega
          · rw [if_neg (by omega), hA z a (by omega), hfe]
        | succ k ih =>
          intro p ν i8 i9 hF hA hc i2
          rw [ff] at i2
          have e0 : ν 0 = μ 0 := hF 0 (by decide)
          have e2 : ν 2 = μ 2 := hF 2 (by decide)
          have e014 : ν 0 14 = μ 0 14 := by rw [e0]
          have e2s : ν 2 s = μ 2 s := by rw [e2]
          have av := hA (v - p) (by omega) (by omega)
          have bv := hf (v - p) (by omega) (by omega)
          have eE : mEn ν 7 s p = mEn μ 7 s p := by unfold mEn; rw [hF 7 (by decide), e2]
          refine J.iload hG dX7_shares_25 rfl ?_
          refine J.iload_n hG dX7_shares_27 rfl rfl ?_
          refine J.icmp_gt hG 130 dX7_shares_28 rfl (fun h28 => absurd h28 (by omega)) (fun h28 => ?_)
          refine J.aload_n hG dX7_shares_31 rfl rfl ?_
          refine J.iload_n hG dX7_shares_32 rfl rfl ?_
          refine J.iload hG dX7_shares_33 rfl ?_
          refine J.callV hG (X7_isPart _ (MB_fr (by decide) hB hF) _ _ (by omega) (by omega)) ok_X7_isPart ml_X7_235 rfl rfl rfl rfl (Nat.le_of_ble_eq_true rfl) ⟨Nat.le_of_ble_eq_true rfl, Nat.le_of_ble_eq_true rfl⟩ dX7_shares_35 rfl (fun r1 μ1 hp1 => ?_)
          obtain ⟨rfl, rfl⟩ := hp1
          refine J.ifb_eq hG 59 dX7_shares_38 rfl (fun h38 => ?_) (fun h38 => ?_)
          · refine J.iconst hG dX7_shares_59 (by decide) ?_
            refine J.istore hG dX7_shares_60 (Nat.le_of_ble_eq_true rfl) ?_
            refine J.aload_n hG dX7_shares_62 rfl rfl ?_
            refine J.getR hG ciX7 rfl 38 38 rfl (Nat.le_of_ble_eq_true rfl) rfl fl_X7_68 dX7_shares_63 ?_
            refine J.iload_n hG dX7_shares_66 rfl rfl ?_
            refine J.iload hG dX7_shares_67 rfl ?_
            refine J.if_eq hG 117 dX7_shares_69 rfl (fun h69 => ?_) (fun h69 => absurd h69 (by omega))
            refine J.aload_n hG dX7_shares_117 rfl rfl ?_
            refine J.getR hG ciX7 rfl 38 38 rfl (Nat.le_of_ble_eq_true rfl) rfl fl_X7_68 dX7_shares_118 ?_
            refine J.iload_n hG dX7_shares_121 rfl rfl ?_
            refine J.iald hG rfl (by omega) (by omega) dX7_shares_122 ?_
            refine J.iast hG rfl (by omega) (by omega) dX7_shares_123 ?_
            refine J.iinc hG dX7_shares_124 (Nat.le_of_ble_eq_true rfl) rfl (fun _ => (by omega)) ?_
            refine J.goto hG 25 dX7_shares_127 rfl ?_
            have ex : gM (mEn μ 7 s) (μ 2 s) f v p (ν 20 v) = ν 20 v := by unfold gM pv cmn; (repeat' split) <;> omega
            rw [ex] at i2
            exact J.drop 5 (ih (p + 1) _ (by omega) (by omega) (XFr_up hF _ _) (fun z a b => by rw [up_ne _ (fun w => by omega)]; exact hA z a b) (by rw [up_self]; omega) (by rw [up_self]; exact i2))
          · refine J.aload_n hG dX7_shares_41 rfl rfl ?_
            refine J.getR hG ciX7 rfl 38 38 rfl (Nat.le_of_ble_eq_true rfl) rfl fl_X7_68 dX7_shares_42 ?_
            refine J.iload_n hG dX7_shares_45 rfl rfl ?_
            refine J.iload hG dX7_shares_46 rfl ?_
            refine J.isub hG dX7_shares_48 (fun _ _ => (by omega)) ?_
            refine J.iald hG rfl (by omega) (by omega) dX7_shares_49 ?_
            refine J.bipush hG dX7_shares_50 (by decide) (by decide) ?_
            refine J.icmp_eq hG 59 dX7_shares_52 rfl (fun h52 => ?_) (fun h52 => ?_)
            · refine J.iconst hG dX7_shares_59 (by decide) ?_
              refine J.istore hG dX7_shares_60 (Nat.le_of_ble_eq_true rfl) ?_
              refine J.aload_n hG dX7_shares_62 rfl rfl ?_
              refine J.getR hG ciX7 rfl 38 38 rfl (Nat.le_of_ble_eq_true rfl) rfl fl_X7_68 dX7_shares_63 ?_
              refine J.iload_n hG dX7_shares_66 rfl rfl ?_
              refine J.iload hG dX7_shares_67 rfl ?_
              refine J.if_eq hG 117 dX7_shares_69 rfl (fun h69 => ?_) (fun h69 => absurd h69 (by omega))
              refine J.aload_n hG dX7_shares_117 rfl rfl ?_
              refine J.getR hG ciX7 rfl 38 38 rfl (Nat.le_of_ble_eq_true rfl) rfl fl_X7_68 dX7_shares_118 ?_
              refine J.iload_n hG dX7_shares_121 rfl rfl ?_
              refine J.iald hG rfl (by omega) (by omega) dX7_shares_122 ?_
              refine J.iast hG rfl (by omega) (by omega) dX7_shares_123 ?_
              refine J.iinc hG dX7_shares_124 (Nat.le_of_ble_eq_true rfl) rfl (fun _ => (by omega)) ?_
              refine J.goto hG 25 dX7_shares_127 rfl ?_
              have ex : gM (mEn μ 7 s) (μ 2 s) f v p (ν 20 v) = ν 20 v := by unfold gM pv cmn; (repeat' split) <;> omega
              rw [ex] at i2
              exact J.drop 5 (ih (p + 1) _ (by omega) (by omega) (XFr_up hF _ _) (fun z a b => by rw [up_ne _ (fun w => by omega)]; exact hA z a b) (by rw [up_self]; omega) (by rw [up_self]; exact i2))
            · refine J.iconst hG dX7_shares_55 (by decide) ?_
              refine J.goto hG 60 dX7_shares_56 rfl ?_
              refine J.istore hG dX7_shares_60 (Nat.le_of_ble_eq_true rfl) ?_
              refine J.aload_n hG dX7_shares_62 rfl rfl ?_
              refine J.getR hG ciX7 rfl 38 38 rfl (Nat.le_of_ble_eq_true rfl) rfl fl_X7_68 dX7_shares_63 ?_
              refine J.iload_n hG dX7_shares_66 rfl rfl ?_
              refine J.iload hG dX7_shares_67 rfl ?_
              refine J.if_eq hG 117 dX7_shares_69 rfl (fun h69 => absurd h69 (by omega)) (fun h69 => ?_)
              refine J.aload_n hG dX7_shares_72 rfl rfl ?_
              refine J.getR hG ciX7 rfl 38 38 rfl (Nat.le_of_ble_eq_true rfl) rfl fl_X7_68 dX7_shares_73 ?_
              refine J.iload_n hG dX7_shares_76 rfl rfl ?_
              refine J.iald hG rfl (by omega) (by omega) dX7_shares_77 ?_
              refine J.bipush hG dX7_shares_78 (by decide) (by decide) ?_
              refine J.icmp_eq hG 103 dX7_shares_80 rfl (fun h80 => ?_) (fun h80 => ?_)
              · refine J.aload_n hG dX7_shares_103 rfl rfl ?_
                refine J.getR hG ciX7 rfl 38 38 rfl (Nat.le_of_ble_eq_true rfl) rfl fl_X7_68 dX7_shares_104 ?_
                refine J.iload_n hG dX7_shares_107 rfl rfl ?_
                refine J.iload hG dX7_shares_108 rfl ?_
                refine J.isub hG dX7_shares_110 (fun _ _ => (by omega)) ?_
                refine J.iald hG rfl (by omega) (by omega) dX7_shares_111 ?_
                refine J.iconst hG dX7_shares_112 (by decide) ?_
                refine J.iadd hG dX7_shares_113 (fun _ _ => (by omega)) ?_
                refine J.goto hG 123 dX7_shares_114 rfl ?_
                refine J.iast hG rfl (by omega) (by omega) dX7_shares_123 ?_
                refine J.iinc hG dX7_shares_124 (Nat.le_of_ble_eq_true rfl) rfl (fun _ => (by omega)) ?_
                refine J.goto hG 25 dX7_shares_127 rfl ?_
                have ex : gM (mEn μ 7 s) (μ 2 s) f v p (ν 20 v) = ν 20 (v - p) + 1 := by unfold gM pv cmn; (repeat' split) <;> omega
                rw [ex] at i2
                exact J.drop 5 (ih (p + 1) _ (by omega) (by omega) (XFr_up hF _ _) (fun z a b => by rw [up_ne _ (fun w => by omega)]; exact hA z a b) (by rw [up_self]; omega) (by rw [up_self]; exact i2))
              · refine J.aload_n hG dX7_shares_83 rfl rfl ?_
                refine J.getR hG ciX7 rfl 38 38 rfl (Nat.le_of_ble_eq_true rfl) rfl fl_X7_68 dX7_shares_84 ?_
                refine J.iload_n hG dX7_shares_87 rfl rfl ?_
                refine J.iload hG dX7_shares_88 rfl ?_
                refine J.isub hG dX7_shares_90 (fun _ _ => (by omega)) ?_
                refine J.iald hG rfl (by omega) (by omega) dX7_shares_91 ?_
                refine J.iconst hG dX7_shares_92 (by decide) ?_
                refine J.iadd hG dX7_shares_93 (fun _ _ => (by omega)) ?_
                refine J.aload_n hG dX7_shares_94 rfl rfl ?_
                refine J.getR hG ciX7 rfl 38 38 rfl (Nat.le_of_ble_eq_true rfl) rfl fl_X7_68 dX7_shares_95 ?_
                refine J.iload_n hG dX7_shares_98 rfl rfl ?_
                refine J.iald hG rfl (by omega) (by omega) dX7_shares_99 ?_
                refine J.icmp_ge hG 117 dX7_shares_100 rfl (fun h100 => ?_) (fun h100 => ?_)
                · refine J.aload_n hG dX7_shares_117 rfl rfl ?_
                  refine J.getR hG ciX7 rfl 38 38 rfl (Nat.le_of_ble_eq_true rfl) rfl fl_X7_68 dX7_shares_118 ?_
                  refine J.iload_n hG dX7_shares_121 rfl rfl ?_
                  refine J.iald hG rfl (by omega) (by omega) dX7_shares_122 ?_
                  refine J.iast hG rfl (by omega) (by omega) dX7_shares_123 ?_
                  refine J.iinc hG dX7_shares_124 (Nat.le_of_ble_eq_true rfl) rfl (fun _ => (by omega)) ?_
                  refine J.goto hG 25 dX7_shares_127 rfl ?_
                  have ex : gM (mEn μ 7 s) (μ 2 s) f v p (ν 20 v) = ν 20 v := by unfold gM pv cmn; (repeat' split) <;> omega
                  rw [ex] at i2
                  exact J.drop 5 (ih (p + 1) _ (by omega) (by omega) (XFr_up hF _ _) (fun z a b => by rw [up_ne _ (fun w => by omega)]; exact hA z a b) (by rw [up_self]; omega) (by rw [up_self]; exact i2))
                · refine J.aload_n hG dX7_shares_103 rfl rfl ?_
                  refine J.getR hG ciX7 rfl 38 38 rfl (Nat.le_of_ble_eq_true rfl) rfl fl_X7_68 dX7_shares_104 ?_
                  refine J.iload_n hG dX7_shares_107 rfl rfl ?_
                  refine J.iload hG dX7_shares_108 rfl ?_
                  refine J.isub hG dX7_shares_110 (fun _ _ => (by omega)) ?_
                  refine J.iald hG rfl (by omega) (by omega) dX7_shares_111 ?_
                  refine J.iconst hG dX7_shares_112 (by decide) ?_
                  refine J.iadd hG dX7_shares_113 (fun _ _ => (by omega)) ?_
                  refine J.goto hG 123 dX7_shares_114 rfl ?_
                  refine J.iast hG rfl (by omega) (by omega) dX7_shares_123 ?_
                  refine J.iinc hG dX7_shares_124 (Nat.le_of_ble_eq_true rfl) rfl (fun _ => (by omega)) ?_
                  refine J.goto hG 25 dX7_shares_127 rfl ?_
                  have ex : gM (mEn μ 7 s) (μ 2 s) f v p (ν 20 v) = ν 20 (v - p) + 1 := by unfold gM pv cmn; (repeat' split) <;> omega
                  rw [ex] at i2
                  exact J.drop 5 (ih (p + 1) _ (by omega) (by omega) (XFr_up hF _ _) (fun z a b => by rw [up_ne _ (fun w => by omega)]; exact hA z a b) (by rw [up_self]; omega) (by rw [up_self]; exact i2))
      refine J.iload_n hG dX7_shares_9 rfl rfl ?_
      refine J.iload_n hG dX7_shares_10 rfl rfl ?_
      refine J.icmp_gt hG 136 dX7_shares_11 rfl (fun h11 => absurd h11 (by omega)) (fun h11 => ?_)
      refine J.aload_n hG dX7_shares_14 rfl rfl ?_
      refine J.getR hG ciX7 rfl 38 38 rfl (Nat.le_of_ble_eq_true rfl) rfl fl_X7_68 dX7_shares_15 ?_
      refine J.iload_n hG dX7_shares_18 rfl rfl ?_
      refine J.bipush hG dX7_shares_19 (by decide) (by decide) ?_
      refine J.iast hG rfl (by omega) (by omega) dX7_shares_21 ?_
      refine J.iconst hG dX7_shares_22 (by decide) ?_
      refine J.istore hG dX7_shares_23 (Nat.le_of_ble_eq_true rfl) ?_
      exact lp2 v.toNat 1 _ (Int.le_refl _) (by omega) (XFr_up hF _ _) (fun z a b => by rw [up_ne _ (fun w => by omega)]; exact hA z a b) (by rw [up_self]; omega) (by rw [up_self]; exact gM_gX (by omega) (by omega))
  refine J.aload_n hG dX7_shares_0 rfl rfl ?_
  refine J.getR hG ciX7 rfl 38 38 rfl (Nat.le_of_ble_eq_true rfl) rfl fl_X7_68 dX7_shares_1 ?_
  refine J.iconst hG dX7_shares_4 (by decide) ?_
  refine J.iconst hG dX7_shares_5 (by decide) ?_
  refine J.iast hG rfl (by omega) (by omega) dX7_shares_6 ?_
  refine J.iconst hG dX7_shares_7 (by decide) ?_
  refine J.istore_n hG dX7_shares_8 rfl (Nat.le_of_ble_eq_true rfl) ?_
  exact lp d.toNat 1 _ (Int.le_refl _) (by omega) (XFr_up (fun _ _ => rfl) _ _) (fun z a b => by rw [show z = 0 by omega, up_self]; rfl)

set_option maxRecDepth 100000 in
set_option maxHeartbeats 4000000 in
theorem X7_parts (μ0 μ : Mem) (hμ : μ = th μ0) (hB : MB μ) (s d w : Int) : CT TM md_X7_parts [aR 0, aI s, aI d, aI w] μ0 (fun rv μ1 => XFr 20 μ μ1 ∧ rv = some (aI (if (0 ≤ s ∧ s < μ 0 14) ∧ (1 ≤ d ∧ d ≤ 99) ∧ (0 ≤ w ∧ w ≤ 1) then partA (mEn μ 7 s) (μ 2 s) (dpT (gX (mEn μ 7 s) (μ 2 s)) d.toNat) d w else -1))) := by
  refine CT.of (Nat.le_of_ble_eq_true rfl) (by decide) rfl (Nat.le_of_ble_eq_true rfl) (fun X hG hX => ?_)
  have hG : G TM X RX7 cX7_parts 6 4 93 (some .int) := hG
  show J TM X 6 0 [some (aR 0), some (aI s), some (aI d), some (aI w), none, none] [] μ0
  refine J.aload_n hG dX7_parts_0 rfl rfl ?_
  refine J.iconst hG dX7_parts_1 (by decide) ?_
  refine J.putI hG ciX7 rfl 0 0 rfl (Nat.le_of_ble_eq_true rfl) rfl fl_X7_75 rfl rfl dX7_parts_2 ?_
  show J TM X 6 5 [some (aR 0), some (aI s), some (aI d), some (aI w), none, none] [] (th μ0)
  rw [← hμ]
  have hB2 := hB
  obtain ⟨h1, h2, h3, h4, h5, h6⟩ := hB2
  refine J.aload_n hG dX7_parts_5 rfl rfl ?_
  refine J.iload_n hG dX7_parts_6 rfl rfl ?_
  refine J.callV hG (X7_isScale _ _ (by omega)) ok_X7_isScale ml_X7_159 rfl rfl rfl rfl (Nat.le_of_ble_eq_true rfl) ⟨Nat.le_of_ble_eq_true rfl, Nat.le_of_ble_eq_true rfl⟩ dX7_parts_7 rfl (fun r1 μ1 hp1 => ?_)
  obtain ⟨rfl, rfl⟩ := hp1
  refine J.ifb_eq hG 32 dX7_parts_10 rfl (fun h10 => ?_) (fun h10 => ?_)
  · refine J.iconst hG dX7_parts_32 (by decide) ?_
    refine J.iret hG dX7_parts_33 ?_
    rw [hX]; dsimp only
    exact ⟨fun _ _ => rfl, by rw [if_neg (by omega)]⟩
  · refine J.iload_n hG dX7_parts_13 rfl rfl ?_
    refine J.iconst hG dX7_parts_14 (by decide) ?_
    refine J.bipush hG dX7_parts_15 (by decide) (by decide) ?_
    refine J.callS hG (X7_in _ _ _ _) ok_X7_in ml_X7_78 rfl (Nat.le_of_ble_eq_true rfl) ⟨Nat.le_of_ble_eq_true rfl, Nat.le_of_ble_eq_true rfl⟩ dX7_parts_17 rfl (fun r1 μ1 hp1 => ?_)
    obtain ⟨rfl, rfl⟩ := hp1
    refine J.ifb_eq hG 32 dX7_parts_20 rfl (fun h20 => ?_) (fun h20 => ?_)
    · refine J.iconst hG dX7_parts_32 (by decide) ?_
      refine J.iret hG dX7_parts_33 ?_
      rw [hX]; dsimp only
      exact ⟨fun _ _ => rfl, by rw [if_neg (by omega)]⟩
    · refine J.iload_n hG dX7_parts_23 rfl rfl ?_
      refine J.iconst hG dX7_parts_24 (by decide) ?_
      refine J.iconst hG dX7_parts_25 (by decide) ?_
      refine J.callS hG (X7_in _ _ _ _) ok_X7_in ml_X7_78 rfl (Nat.le_of_ble_eq_true rfl) ⟨Nat.le_of_ble_eq_true rfl, Nat.le_of_ble_eq_true rfl⟩ dX7_parts_26 rfl (fun r1 μ1 hp1 => ?_)
      obtain ⟨rfl, rfl⟩ := hp1
      refine J.ifb_ne hG 34 dX7_parts_29 rfl (fun h29 => ?_) (fun h29 => ?_)
      · refine J.aload_n hG dX7_parts_34 rfl rfl ?_
        refine J.iload_n hG dX7_parts_35 rfl rfl ?_
        refine J.iload_n hG dX7_parts_36 rfl rfl ?_
        refine J.callV hG (X7_shares _ hB _ _ (by omega) (by omega)) ok_X7_shares ml_X7_239 rfl rfl rfl rfl (Nat.le_of_ble_eq_true rfl) ⟨Nat.le_of_ble_eq_true rfl, Nat.le_of_ble_eq_true rfl⟩ dX7_parts_37 rfl (fun r1 ν hp1 => ?_)
        obtain ⟨rfl, hF, hA⟩ := hp1
        obtain ⟨f, hfe⟩ : ∃ f, f = dpT (gX (mEn μ 7 s) (μ 2 s)) d.toNat := ⟨_, rfl⟩
        rw [← hfe] at hA
        have ad := hA d (by omega) (by omega)
        have bd : ∀ z : Int, 0 ≤ z → z ≤ d → -9 ≤ f z ∧ f z ≤ z ∧ (f z = -9 ∨ 0 ≤ f z) := fun z a b => by rw [hfe]; exact dpT_bd _ z a (by omega)
        have bdd := bd d (by omega) (by omega)
        have e0 : ν 0 = μ 0 := hF 0 (by decide)
        have e2 : ν 2 = μ 2 := hF 2 (by decide)
        have e014 : ν 0 14 = μ 0 14 := by rw [e0]
        have e2s : ν 2 s = μ 2 s := by rw [e2]
        refine J.iload_n hG dX7_parts_40 rfl rfl ?_
        refine J.if_eq hG 55 dX7_parts_41 rfl (fun h41 => ?_) (fun h41 => ?_)
        · refine J.aload_n hG dX7_parts_55 rfl rfl ?_
          refine J.getR hG ciX7 rfl 38 38 rfl (Nat.le_of_ble_eq_true rfl) rfl fl_X7_68 dX7_parts_56 ?_
          refine J.iload_n hG dX7_parts_59 rfl rfl ?_
          refine J.iald hG rfl (by omega) (by omega) dX7_parts_60 ?_
          refine J.iret hG dX7_parts_61 ?_
          rw [hX]; dsimp only
          refine ⟨hF, ?_⟩
          rw [if_pos (by omega), ← hfe, partA, if_pos (by omega), ad]
        · refine J.aload_n hG dX7_parts_44 rfl rfl ?_
          refine J.getR hG ciX7 rfl 38 38 rfl (Nat.le_of_ble_eq_true rfl) rfl fl_X7_68 dX7_parts_45 ?_
          refine J.iload_n hG dX7_parts_48 rfl rfl ?_
          refine J.iald hG rfl (by omega) (by omega) dX7_parts_49 ?_
          refine J.bipush hG dX7_parts_50 (by decide) (by decide) ?_
          refine J.icmp_ne hG 62 dX7_parts_52 rfl (fun h52 => ?_) (fun h52 => ?_)
          · refine J.bipush hG dX7_parts_62 (by decide) (by decide) ?_
            refine J.istore hG dX7_parts_64 (Nat.le_of_ble_eq_true rfl) ?_
            refine J.iconst hG dX7_parts_66 (by decide) ?_
            refine J.istore hG dX7_parts_67 (Nat.le_of_ble_eq_true rfl) ?_
            have q5 := h5 s (by omega) (by omega)
            have lp : ∀ (k : Nat) (p : Int) (c : Int), 1 ≤ p → p + k = d + 1 → (ff (fun p c => if (if p ≤ μ 2 s ∧ ¬ mEn μ 7 s p = 3 ∧ f (d - p) = f d - 1 then (3 : Int) else 0) = 3 then p else c) k p c = fl (fun p => if ¬ mEn μ 7 s p = 3 ∧ f (d - p) = f d - 1 then 3 else 0) (min d (μ 2 s)).toNat) → J TM X 6 69 [some (aR 0), some (aI s), some (aI d), some (aI w), some (aI c), some (aI p)] [] ν := by
              intro k
              induction k with
              | zero =>
                intro p c i0 i1 i2
                simp only [ff] at i2
                refine J.iload hG dX7_parts_69 rfl ?_
                refine J.iload_n hG dX7_parts_71 rfl rfl ?_
                refine J.icmp_gt hG 120 dX7_parts_72 rfl (fun h72 => ?_) (fun h72 => absurd h72 (by omega))
                refine J.iload hG dX7_parts_120 rfl ?_
                refine J.iret hG dX7_parts_122 ?_
                rw [hX]; dsimp only
                refine ⟨hF, ?_⟩
                rw [if_pos (by omega), ← hfe, partA, if_neg (by omega), ← i2]
              | succ k ih =>
                intro p c i0 i1 i2
                rw [ff] at i2
                have ap := hA (d - p) (by omega) (by omega)
                have eE : mEn ν 7 s p = mEn μ 7 s p := by unfold mEn; rw [hF 7 (by decide), e2]
                refine J.iload hG dX7_parts_69 rfl ?_
                refine J.iload_n hG dX7_parts_71 rfl rfl ?_
                refine J.icmp_gt hG 120 dX7_parts_72 rfl (fun h72 => absurd h72 (by omega)) (fun h72 => ?_)
                refine J.aload_n hG dX7_parts_75 rfl rfl ?_
                refine J.iload_n hG dX7_parts_76 rfl rfl ?_
                refine J.iload hG dX7_parts_77 rfl ?_
                refine J.callV hG (X7_isPart _ (MB_fr (by decide) hB hF) _ _ (by omega) (by omega)) ok_X7_isPart ml_X7_235 rfl rfl rfl rfl (Nat.le_of_ble_eq_true rfl) ⟨Nat.le_of_ble_eq_true rfl, Nat.le_of_ble_eq_true rfl⟩ dX7_parts_79 rfl (fun r1 μ1 hp1 => ?_)
                obtain ⟨rfl, rfl⟩ := hp1
                refine J.ifb_eq hG 110 dX7_parts_82 rfl (fun h82 => ?_) (fun h82 => ?_)
                · refine J.iload hG dX7_parts_110 rfl ?_
                  refine J.istore hG dX7_parts_112 (Nat.le_of_ble_eq_true rfl) ?_
                  refine J.iinc hG dX7_parts_114 (Nat.le_of_ble_eq_true rfl) rfl (fun _ => (by omega)) ?_
                  refine J.goto hG 69 dX7_parts_117 rfl ?_
                  rw [if_neg (by rw [if_neg (by omega)]; decide)] at i2
                  exact ih (p + 1) _ (by omega) (by omega) i2
                · refine J.aload_n hG dX7_parts_85 rfl rfl ?_
                  refine J.getR hG ciX7 rfl 38 38 rfl (Nat.le_of_ble_eq_true rfl) rfl fl_X7_68 dX7_parts_86 ?_
                  refine J.iload_n hG dX7_parts_89 rfl rfl ?_
                  refine J.iload hG dX7_parts_90 rfl ?_
                  refine J.isub hG dX7_parts_92 (fun _ _ => (by omega)) ?_
                  refine J.iald hG rfl (by omega) (by omega) dX7_parts_93 ?_
                  refine J.aload_n hG dX7_parts_94 rfl rfl ?_
                  refine J.getR hG ciX7 rfl 38 38 rfl (Nat.le_of_ble_eq_true rfl) rfl fl_X7_68 dX7_parts_95 ?_
                  refine J.iload_n hG dX7_parts_98 rfl rfl ?_
                  refine J.iald hG rfl (by omega) (by omega) dX7_parts_99 ?_
                  refine J.iconst hG dX7_parts_100 (by decide) ?_
                  refine J.isub hG dX7_parts_101 (fun _ _ => (by omega)) ?_
                  refine J.icmp_ne hG 110 dX7_parts_102 rfl (fun h102 => ?_) (fun h102 => ?_)
                  · refine J.iload hG dX7_parts_110 rfl ?_
                    refine J.istore hG dX7_parts_112 (Nat.le_of_ble_eq_true rfl) ?_
                    refine J.iinc hG dX7_parts_114 (Nat.le_of_ble_eq_true rfl) rfl (fun _ => (by omega)) ?_
                    refine J.goto hG 69 dX7_parts_117 rfl ?_
                    rw [if_neg (by rw [if_neg (by omega)]; decide)] at i2
                    exact ih (p + 1) _ (by omega) (by omega) i2
                  · refine J.iload hG dX7_parts_105 rfl ?_
                    refine J.goto hG 112 dX7_parts_107 rfl ?_
                    refine J.istore hG dX7_parts_112 (Nat.le_of_ble_eq_true rfl) ?_
                    refine J.iinc hG dX7_parts_114 (Nat.le_of_ble_eq_true rfl) rfl (fun _ => (by omega)) ?_
                    refine J.goto hG 69 dX7_parts_117 rfl ?_
                    rw [if_pos (if_pos (by omega))] at i2
                    exact ih (p + 1) _ (by omega) (by omega) i2
            exact lp d.toNat 1 (-9) (Int.le_refl _) (by omega) (partA_M (by omega) (by omega))
          · refine J.aload_n hG dX7_parts_55 rfl rfl ?_
            refine J.getR hG ciX7 rfl 38 38 rfl (Nat.le_of_ble_eq_true rfl) rfl fl_X7_68 dX7_parts_56 ?_
            refine J.iload_n hG dX7_parts_59 rfl rfl ?_
            refine J.iald hG rfl (by omega) (by omega) dX7_parts_60 ?_
            refine J.iret hG dX7_parts_61 ?_
            rw [hX]; dsimp only
            refine ⟨hF, ?_⟩
            rw [if_pos (by omega), ← hfe, partA, if_pos (by omega), ad]
      · refine J.iconst hG dX7_parts_32 (by decide) ?_
        refine J.iret hG dX7_parts_33 ?_
        rw [hX]; dsimp only
        exact ⟨fun _ _ => rfl, by rw [if_neg (by omega)]⟩


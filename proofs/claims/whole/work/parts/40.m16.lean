theorem X7_readsItem_a (μ : Mem) (m j : Nat) (σ μ0 : Mem) (hS : ∀ j : Nat, j ≤ m → 0 ≤ σ 12 j) (hR : Rd m j σ μ0 μ) (h8 : μ 0 8 < 0) (hT : MT μ) (hD : Dr σ μ) (hTz : MT μ0) (h80 : μ0 0 8 < 0) (hI : PI m σ) (c : Int) (hc : mayS σ c = 1) : CT TM md_X7_readsItem [aR 0, aI c] μ (fun rv μ1 => rv = none ∧ ((∃ (σ2 : Mem) (j2 : Nat), bodyS σ c = .inr σ2 ∧ Rd m j2 σ2 μ0 μ1 ∧ Dr σ2 μ1) ∨ (∃ f : Int, bodyS σ c = .inl f ∧ FrD μ0 μ1 ∧ μ1 0 8 = f ∧ 0 ≤ f))) := by
  have p2 := hI.2.2
  rcases mayS_1 hc with ⟨rfl, c1, c2⟩ | ⟨rfl, c1⟩ | ⟨rfl, c1⟩ | ⟨rfl, c1⟩
  · rw [bodyS_s]
    exact X7_readsItem_s μ m j σ μ0 hS hR h8 hT hD hTz ⟨⟨by omega, c2⟩, c1⟩ h80
  · rw [bodyS_l]
    exact X7_readsItem_l μ m j σ μ0 hS hR h8 hT hD hTz ⟨by omega, by omega, c1⟩ p2.2.2.2.1 h80
  · rw [bodyS_d]
    exact X7_readsItem_d μ m j σ μ0 hS hR h8 hT hD c1
  · rw [bodyS_p]
    exact X7_readsItem_p μ m j σ μ0 hS hR h8 hT hD ⟨by omega, c1⟩
theorem Dr_L {σ μ ν : Mem} (h : Dr σ μ) (g : FrL μ ν) : Dr σ ν := by
  unfold Dr
  rw [g.1 2 (by decide), g.1 3 (by decide), g.1 4 (by decide), g.1 5 (by decide), g.1 6 (by decide), g.2 18 (by omega), g.2 19 (by omega), g.2 20 (by omega), g.2 21 (by omega)]
  exact h
theorem Dr_6 {σ μ : Mem} (h : Dr σ μ) (x : Int) : Dr (up σ 1 6 x) μ := by
  unfold Dr
  rw [up_cell _ _ _ (show (2 : Nat) ≠ 1 by decide), up_cell _ _ _ (show (3 : Nat) ≠ 1 by decide), up_cell _ _ _ (show (4 : Nat) ≠ 1 by decide), up_cell _ _ _ (show (5 : Nat) ≠ 1 by decide), up_cell _ _ _ (show (7 : Nat) ≠ 1 by decide), up_cell _ _ _ (show (8 : Nat) ≠ 1 by decide), up_cell _ _ _ (show (9 : Nat) ≠ 1 by decide), up_ne _ (j' := 9) (fun w => by omega)]
  exact h
theorem Dr_7 {σ μ : Mem} (h : Dr σ μ) (x : Int) : Dr (up σ 1 7 x) μ := by
  unfold Dr
  rw [up_cell _ _ _ (show (2 : Nat) ≠ 1 by decide), up_cell _ _ _ (show (3 : Nat) ≠ 1 by decide), up_cell _ _ _ (show (4 : Nat) ≠ 1 by decide), up_cell _ _ _ (show (5 : Nat) ≠ 1 by decide), up_cell _ _ _ (show (7 : Nat) ≠ 1 by decide), up_cell _ _ _ (show (8 : Nat) ≠ 1 by decide), up_cell _ _ _ (show (9 : Nat) ≠ 1 by decide), up_ne _ (j' := 9) (fun w => by omega)]
  exact h
theorem numS_v {lo hi : Int} {σ τ : Mem} {k : Int → Mem → Rs} (h : numS lo hi σ k = .inr τ) : k (σ 11 (σ 1 6)) (up σ 1 6 (σ 1 6 + 1)) = .inr τ := by
  unfold numS at h
  split at h
  · exact h
  · cases h
theorem lifeS_7 : ∀ (n : Nat) (s : Int) (σ τ : Mem), lifeS n s σ = .inr τ → τ 1 7 = σ 1 7
  | 0, s, σ, τ, h => by
    unfold lifeS at h
    injection h with h
    subst h
    simp [up, incr]
  | n + 1, s, σ, τ, h => by
    unfold lifeS at h
    have h1 := numS_v h
    have h2 := numS_v h1
    rw [lifeS_7 n _ _ τ h2]
    simp [up]
theorem bodyS_7 {σ τ : Mem} {c : Int} (h : bodyS σ c = .inr τ) : τ 1 7 = σ 1 7 := by
  unfold bodyS at h
  (repeat' split at h)
  · unfold scaleS at h
    have h2 := numS_v (numS_v (numS_v h))
    injection h2 with h2
    subst h2
    simp [up, incr]
  · exact lifeS_7 _ _ _ _ h
  · have h2 := numS_v h
    injection h2 with h2
    subst h2
    simp [up]
  · have h2 := numS_v h
    injection h2 with h2
    subst h2
    simp [up, incr]

theorem dig_0n (f : Int → Int) (n x : Int) (h : x < 1) : dig f n (x - 1) = 0 := by
  unfold dig
  rw [if_neg (by omega)]
theorem numS_f {m : Nat} {lo hi : Int} {σ : Mem} {k : Int → Mem → Rs} {f : Int} (h : numS lo hi σ k = .inl f) (h0 : 0 ≤ lo) (hP : PI m σ) : f ≤ 200 ∨ ∃ v : Int, (lo ≤ v ∧ v ≤ hi) ∧ k v (up σ 1 6 (σ 1 6 + 1)) = .inl f ∧ PI m (up σ 1 6 (σ 1 6 + 1)) := by
  unfold numS at h
  split at h
  · rename_i hv
    have hne : σ 1 6 ≠ m := fun w => by rw [w, hP.1.2.1] at hv; omega
    have h6 := hP.2.1
    exact Or.inr ⟨_, hv, h, PI_1 hP _ _ (fun _ => by omega) (fun w => by omega)⟩
  · injection h with h
    have h6 := hP.2.1
    have := (hP.1.2.2 (σ 1 6) h6.1 h6.2).2.2
    exact Or.inl (by omega)
theorem lifeS_f {m : Nat} : ∀ (n : Nat) (s : Int) (σ : Mem) (f : Int), PI m σ → lifeS n s σ = .inl f → f ≤ 200
  | 0, s, σ, f, hP, h => by unfold lifeS at h; cases h
  | n + 1, s, σ, f, hP, h => by
    unfold lifeS at h
    rcases numS_f h (by decide) hP with q | ⟨v, hv, h, hP1⟩
    · exact q
    rcases numS_f h (by decide) (PI_w hP1 7 _ _ (by decide)) with q | ⟨w, hw, h, hP2⟩
    · exact q
    exact lifeS_f n _ _ f (PI_w hP2 4 _ _ (by decide)) h
theorem bodyS_f {m : Nat} {σ : Mem} {c f : Int} (hP : PI m σ) (hc : mayS σ c = 1) (h : bodyS σ c = .inl f) : f ≤ 200 := by
  rcases mayS_1 hc with ⟨rfl, c1, c2⟩ | ⟨rfl, c1⟩ | ⟨rfl, c1⟩ | ⟨rfl, c1⟩
  · rw [bodyS_s] at h
    unfold scaleS at h
    rcases numS_f h (by decide) hP with q | ⟨v, hv, h, hP1⟩
    · exact q
    rcases numS_f h (by decide) (PI_w hP1 8 (σ 2 0) v (by decide)) with q | ⟨v2, hv2, h, hP2⟩
    · exact q
    have e2 : up (up (up σ 1 6 (σ 1 6 + 1)) 8 (σ 2 0) v) 1 6 (up (up σ 1 6 (σ 1 6 + 1)) 8 (σ 2 0) v 1 6 + 1) 2 = σ 2 := by (repeat rw [up_cell _ _ _ (by decide)])
    have hP3 := PI_rg hP2 v2
    rw [e2] at hP3
    rcases numS_f h (by decide) hP3 with q | ⟨v3, hv3, h, hP4⟩
    · exact q
    cases h
  · rw [bodyS_l] at h
    exact lifeS_f _ _ _ _ hP h
  · rw [bodyS_d] at h
    rcases numS_f h (by decide) (PI_1 hP 9 1 (fun w => by omega) (fun _ => Or.inr rfl)) with q | ⟨v, hv, h, hP1⟩
    · exact q
    cases h
  · rw [bodyS_p] at h
    rcases numS_f h (by decide) hP with q | ⟨v, hv, h, hP1⟩
    · exact q
    cases h
set_option maxRecDepth 100000 in
set_option maxHeartbeats 4000000 in
theorem X7_land (μ0 μ : Mem) (hμ : μ = th μ0) (hT0 : MT μ) (m : Nat) (σ0 : Mem) (hTk : Tk m (μ 1) (μ 0 3) σ0) (hI : PI m σ0) (hGd : GD σ0) (h6 : σ0 1 6 = (0 : Nat)) (h7 : σ0 1 7 = 0) (h9 : σ0 1 9 = 0) (h2 : σ0 2 0 = 0 ∧ σ0 2 1 = 0 ∧ σ0 2 2 = 0) : CT TM md_X7_land [aR 0] μ0 (fun rv μ1 => (∃ f, loopS 200 σ0 = .inl f ∧ rv = some (aI (-10 - f)) ∧ FrD μ μ1) ∨ (∃ (σ μ2 : Mem), loopS 200 σ0 = .inr σ ∧ rv = some (aI (σ 1 7)) ∧ FrD μ μ2 ∧ Dr σ μ2 ∧ Settled μ2 μ1)) := by
  refine CT.of (Nat.le_of_ble_eq_true rfl) (by decide) rfl (Nat.le_of_ble_eq_true rfl) (fun X hG hX => ?_)
  have hG : G TM X RX7 cX7_land 3 5 109 (some .int) := hG
  show J TM X 3 0 [some (aR 0), none, none] [] μ0
  refine J.aload_n hG dX7_land_0 rfl rfl ?_
  refine J.iconst hG dX7_land_1 (by decide) ?_
  refine J.putI hG ciX7 rfl 0 0 rfl (Nat.le_of_ble_eq_true rfl) rfl fl_X7_75 rfl rfl dX7_land_2 ?_
  show J TM X 3 5 [some (aR 0), none, none] [] (th μ0)
  rw [← hμ]
  refine J.aload_n hG dX7_land_5 rfl rfl ?_
  refine J.iconst hG dX7_land_6 (by decide) ?_
  refine J.putI hG ciX7 rfl 8 8 rfl (Nat.le_of_ble_eq_true rfl) rfl fl_X7_101 rfl rfl dX7_land_7 ?_
  refine J.aload_n hG dX7_land_10 rfl rfl ?_
  refine J.iconst hG dX7_land_11 (by decide) ?_
  refine J.putI hG ciX7 rfl 4 4 rfl (Nat.le_of_ble_eq_true rfl) rfl fl_X7_85 rfl rfl dX7_land_12 ?_
  refine J.iconst hG dX7_land_15 (by decide) ?_
  refine J.istore_n hG dX7_land_16 rfl (Nat.le_of_ble_eq_true rfl) ?_
  refine J.aload_n hG dX7_land_17 rfl rfl ?_
  refine J.iconst hG dX7_land_18 (by decide) ?_
  refine J.putI hG ciX7 rfl 18 18 rfl (Nat.le_of_ble_eq_true rfl) rfl fl_X7_115 rfl rfl dX7_land_19 ?_
  refine J.aload_n hG dX7_land_22 rfl rfl ?_
  refine J.iconst hG dX7_land_23 (by decide) ?_
  refine J.putI hG ciX7 rfl 19 19 rfl (Nat.le_of_ble_eq_true rfl) rfl fl_X7_118 rfl rfl dX7_land_24 ?_
  refine J.aload_n hG dX7_land_27 rfl rfl ?_
  refine J.iconst hG dX7_land_28 (by decide) ?_
  refine J.putI hG ciX7 rfl 20 20 rfl (Nat.le_of_ble_eq_true rfl) rfl fl_X7_121 rfl rfl dX7_land_29 ?_
  refine J.aload_n hG dX7_land_32 rfl rfl ?_
  refine J.bipush hG dX7_land_33 (by decide) (by decide) ?_
  refine J.putI hG ciX7 rfl 21 21 rfl (Nat.le_of_ble_eq_true rfl) rfl fl_X7_124 rfl rfl dX7_land_35 ?_
  obtain ⟨μb, hμb⟩ : ∃ μb, μb = up (up (up (up (up (up μ 0 8 (-1)) 0 4 0) 0 18 0) 0 19 0) 0 20 0) 0 21 (-9) := ⟨_, rfl⟩
  rw [← hμb]
  have hFb : FrD μ μb := by
    rw [hμb]
    exact FrD_up (FrD_up (FrD_up (FrD_up (FrD_up (FrD_up (FrD_0 μ) 0 8 _ (by omega)) 0 4 _ (by omega)) 0 18 _ (by omega)) 0 19 _ (by omega)) 0 20 _ (by omega)) 0 21 _ (by omega)
  have hTb := MT_D hT0 hFb
  have hb4 : μb 0 4 = 0 := by rw [hμb]; simp [up]
  refine J.aload_n hG dX7_land_38 rfl rfl ?_
  refine J.callV hG (X7_advances _ hTb (by rw [hb4]; exact ⟨by decide, hTb.1.1⟩) (by rw [hb4]; exact fun _ => dig_0n _ _ _ (by decide))) ok_X7_advances ml_X7_108 rfl rfl rfl rfl (Nat.le_of_ble_eq_true rfl) ⟨Nat.le_of_ble_eq_true rfl, Nat.le_of_ble_eq_true rfl⟩ dX7_land_39 rfl (fun r1 μa hp1 => ?_)
  obtain ⟨rfl, hFa, hAa⟩ := hp1
  obtain ⟨R, hR⟩ : ∃ R, R = loopS 200 σ0 := ⟨_, rfl⟩
  obtain ⟨μs, hμs⟩ : ∃ μs, μs = μa := ⟨_, rfl⟩
  have hFs : FrD μ μs := by
    rw [hμs]
    exact FrD_tr hFb (FrD_L hFa)
  have hTs : MT μs := MT_D hT0 hFs
  have h8s : μs 0 8 = -1 := by rw [hμs, hFa.2 8 (by omega), hμb]; simp [up]
  rw [hb4] at hAa
  have finb : ∀ (it f : Int) (ν : Mem), ν 0 8 = f → 0 ≤ f → f ≤ 200 → FrD μs ν → R = .inl f → J TM X 3 42 [some (aR 0), some (aI it), none] [] ν := by
    intro it f ν hf h0 h2 hF hr
    refine J.aload_n hG dX7_land_42 rfl rfl ?_
    refine J.callV hG (X7_isWell _) ok_X7_isWell ml_X7_104 rfl rfl rfl rfl (Nat.le_of_ble_eq_true rfl) ⟨Nat.le_of_ble_eq_true rfl, Nat.le_of_ble_eq_true rfl⟩ dX7_land_43 rfl (fun r1 μ1 hp1 => ?_)
    obtain ⟨rfl, rfl⟩ := hp1
    refine J.ifb_eq hG 117 dX7_land_46 rfl (fun h46 => ?_) (fun h46 => absurd h46 (by omega))
    refine J.aload_n hG dX7_land_117 rfl rfl ?_
    refine J.callV hG (X7_isWell _) ok_X7_isWell ml_X7_104 rfl rfl rfl rfl (Nat.le_of_ble_eq_true rfl) ⟨Nat.le_of_ble_eq_true rfl, Nat.le_of_ble_eq_true rfl⟩ dX7_land_118 rfl (fun r1 μ1 hp1 => ?_)
    obtain ⟨rfl, rfl⟩ := hp1
    refine J.ifb_ne hG 132 dX7_land_121 rfl (fun h121 => absurd h121 (by omega)) (fun h121 => ?_)
    refine J.bipush hG dX7_land_124 (by decide) (by decide) ?_
    refine J.aload_n hG dX7_land_126 rfl rfl ?_
    refine J.getI hG ciX7 rfl 8 8 rfl (Nat.le_of_ble_eq_true rfl) rfl fl_X7_101 dX7_land_127 ?_
    refine J.isub hG dX7_land_130 (fun _ _ => (by omega)) ?_
    refine J.iret hG dX7_land_131 ?_
    rw [hX]; dsimp only
    exact Or.inl ⟨f, by rw [← hR]; exact hr, by rw [hf], FrD_tr hFs hF⟩
  have base : ∀ (it : Int) (ν σ : Mem), ν 0 8 < 0 → ν 0 5 = 0 → FrD μs ν → Dr σ ν → it = σ 1 7 → R = .inr σ → J TM X 3 42 [some (aR 0), some (aI it), none] [] ν := by
    intro it ν σ h8 h5 hF hD hit hr
    refine J.aload_n hG dX7_land_42 rfl rfl ?_
    refine J.callV hG (X7_isWell _) ok_X7_isWell ml_X7_104 rfl rfl rfl rfl (Nat.le_of_ble_eq_true rfl) ⟨Nat.le_of_ble_eq_true rfl, Nat.le_of_ble_eq_true rfl⟩ dX7_land_43 rfl (fun r1 μ1 hp1 => ?_)
    obtain ⟨rfl, rfl⟩ := hp1
    refine J.ifb_eq hG 117 dX7_land_46 rfl (fun h46 => absurd h46 (by omega)) (fun h46 => ?_)
    refine J.aload_n hG dX7_land_49 rfl rfl ?_
    refine J.getI hG ciX7 rfl 5 5 rfl (Nat.le_of_ble_eq_true rfl) rfl fl_X7_95 dX7_land_50 ?_
    refine J.if_eq hG 117 dX7_land_53 rfl (fun h53 => ?_) (fun h53 => absurd h53 (by omega))
    refine J.aload_n hG dX7_land_117 rfl rfl ?_
    refine J.callV hG (X7_isWell _) ok_X7_isWell ml_X7_104 rfl rfl rfl rfl (Nat.le_of_ble_eq_true rfl) ⟨Nat.le_of_ble_eq_true rfl, Nat.le_of_ble_eq_true rfl⟩ dX7_land_118 rfl (fun r1 μ1 hp1 => ?_)
    obtain ⟨rfl, rfl⟩ := hp1
    refine J.ifb_ne hG 132 dX7_land_121 rfl (fun h121 => ?_) (fun h121 => absurd h121 (by omega))
    refine J.aload_n hG dX7_land_132 rfl rfl ?_
    refine J.callV hG (X7_settles _) ok_X7_settles ml_X7_138 rfl rfl rfl rfl (Nat.le_of_ble_eq_true rfl) ⟨Nat.le_of_ble_eq_true rfl, Nat.le_of_ble_eq_true rfl⟩ dX7_land_133 rfl (fun r1 μe hp1 => ?_)
    obtain ⟨rfl, hs⟩ := hp1
    refine J.iload_n hG dX7_land_136 rfl rfl ?_
    refine J.iret hG dX7_land_137 ?_
    rw [hX]; dsimp only
    exact Or.inr ⟨σ, ν, by rw [← hR]; exact hr, by rw [hit], FrD_tr hFs hF, hD, hs⟩
  have lp : ∀ (k : Nat) (it : Int) (ν : Mem) (j : Nat) (σ : Mem), Rd m j σ μs ν → Dr σ ν → PI m σ → GD σ → it = σ 1 7 → loopS k σ = R → (m : Int) - j ≤ k → 0 ≤ it → it + k ≤ 200 → J TM X 3 42 [some (aR 0), some (aI it), none] [] ν := by
    intro k
    induction k with
    | zero =>
      intro it ν j σ hR hD hI hGd hit hr hk hi0 hi2
      obtain ⟨r1, r2, r3, r4, r5, r6⟩ := id hR
      obtain ⟨q1, q2, q3, q4, q5, q6, q7, q8⟩ := Rd_J hR
      have h8 : ν 0 8 < 0 := by rw [r2]; omega
      rw [loopS] at hr
      exact base it ν σ h8 (by omega) r1 hD hit hr.symm
    | succ k ih =>
      intro it ν j σ hR hD hI hGd hit hr hk hi0 hi2
      obtain ⟨r1, r2, r3, r4, r5, r6⟩ := id hR
      obtain ⟨q1, q2, q3, q4, q5, q6, q7, q8⟩ := Rd_J hR
      obtain ⟨⟨d1, d2, d3⟩, d4, d5, d6, d7⟩ := id hD
      have h8 : ν 0 8 < 0 := by rw [r2]; omega
      have hT := MT_D hTs r1
      have hS : ∀ z : Nat, z ≤ m → 0 ≤ σ 12 z := fun z hz => (hI.1.2.2 z (by omega) (by omega)).2.1
      have hS2 : ∀ z : Nat, z ≤ m → σ 12 z ≤ 200 := fun z hz => (hI.1.2.2 z (by omega) (by omega)).2.2
      by_cases hend : σ 11 j = -2
      · rw [loopS, if_pos (by rw [r5]; exact hend)] at hr
        exact base it ν σ h8 (by omega) r1 hD hit hr.symm
      rw [loopS, if_neg (by rw [r5]; exact hend)] at hr
      have hit0 : itemS σ = if mayS σ (-σ 11 j) = 1 then bnd (bodyS (incr σ 1 6) (-σ 11 j)) semS else .inl (σ 12 j) := by unfold itemS; rw [r5]
      refine J.aload_n hG dX7_land_42 rfl rfl ?_
      refine J.callV hG (X7_isWell _) ok_X7_isWell ml_X7_104 rfl rfl rfl rfl (Nat.le_of_ble_eq_true rfl) ⟨Nat.le_of_ble_eq_true rfl, Nat.le_of_ble_eq_true rfl⟩ dX7_land_43 rfl (fun r1 μ1 hp1 => ?_)
      obtain ⟨rfl, rfl⟩ := hp1
      refine J.ifb_eq hG 117 dX7_land_46 rfl (fun h46 => absurd h46 (by omega)) (fun h46 => ?_)
      refine J.aload_n hG dX7_land_49 rfl rfl ?_
      refine J.getI hG ciX7 rfl 5 5 rfl (Nat.le_of_ble_eq_true rfl) rfl fl_X7_95 dX7_land_50 ?_
      refine J.if_eq hG 117 dX7_land_53 rfl (fun h53 => absurd h53 (by omega)) (fun h53 => ?_)
      refine J.aload_n hG dX7_land_56 rfl rfl ?_
      refine J.aload_n hG dX7_land_57 rfl rfl ?_
      refine J.getI hG ciX7 rfl 5 5 rfl (Nat.le_of_ble_eq_true rfl) rfl fl_X7_95 dX7_land_58 ?_
      refine J.iconst hG dX7_land_61 (by decide) ?_
      refine J.icmp_ne hG 76 dX7_land_62 rfl (fun h62 => ?_) (fun h62 => ?_)
      · refine J.iconst hG dX7_land_76 (by decide) ?_
        refine J.callV hG (X7_takes_f _ h8) ok_X7_takes ml_X7_111 rfl rfl rfl rfl (Nat.le_of_ble_eq_true rfl) ⟨Nat.le_of_ble_eq_true rfl, Nat.le_of_ble_eq_true rfl⟩ dX7_land_77 rfl (fun r1 μ1 hp1 => ?_)
        obtain ⟨rfl, rfl⟩ := hp1
        have hbad : itemS σ = .inl (σ 12 j) := by
          rw [hit0, if_neg (fun w => ?_)]
          have q8 := mayS_1 w
          omega
        rw [hbad] at hr
        have hsb := hS j r4
        refine J.istore_n hG dX7_land_80 rfl (Nat.le_of_ble_eq_true rfl) ?_
        refine J.aload_n hG dX7_land_81 rfl rfl ?_
        refine J.callV hG (X7_isWell _) ok_X7_isWell ml_X7_104 rfl rfl rfl rfl (Nat.le_of_ble_eq_true rfl) ⟨Nat.le_of_ble_eq_true rfl, Nat.le_of_ble_eq_true rfl⟩ dX7_land_82 rfl (fun r1 μ1 hp1 => ?_)
        obtain ⟨rfl, rfl⟩ := hp1
        refine J.ifb_eq hG 93 dX7_land_85 rfl (fun h85 => ?_) (fun h85 => absurd h85 (by (try rw [up_self] at h85); omega))
        refine J.aload_n hG dX7_land_93 rfl rfl ?_
        refine J.aload_n hG dX7_land_94 rfl rfl ?_
        refine J.getI hG ciX7 rfl 5 5 rfl (Nat.le_of_ble_eq_true rfl) rfl fl_X7_95 dX7_land_95 ?_
        refine J.iconst hG dX7_land_98 (by decide) ?_
        refine J.icmp_ne hG 106 dX7_land_99 rfl (fun h99 => ?_) (fun h99 => ?_)
        · refine J.iconst hG dX7_land_106 (by decide) ?_
          refine J.callV hG (X7_takes_b _ _ (by rw [up_self]; omega)) ok_X7_takes ml_X7_111 rfl rfl rfl rfl (Nat.le_of_ble_eq_true rfl) ⟨Nat.le_of_ble_eq_true rfl, Nat.le_of_ble_eq_true rfl⟩ dX7_land_107 rfl (fun r1 μ1 hp1 => ?_)
          obtain ⟨rfl, rfl⟩ := hp1
          refine J.pop hG dX7_land_110 (fun _ => rfl) ?_
          refine J.iinc hG dX7_land_111 (Nat.le_of_ble_eq_true rfl) rfl (fun _ => (by omega)) ?_
          refine J.goto hG 42 dX7_land_114 rfl ?_
          refine J.drop 2 (finb _ (σ 12 j) _ (by rw [up_self, q1]) (by omega) (hS2 j r4) (FrD_up r1 0 8 _ (by omega)) hr.symm)
        · refine J.iconst hG dX7_land_102 (by decide) ?_
          refine J.goto hG 107 dX7_land_103 rfl ?_
          refine J.callV hG (X7_takes_b _ _ (by rw [up_self]; omega)) ok_X7_takes ml_X7_111 rfl rfl rfl rfl (Nat.le_of_ble_eq_true rfl) ⟨Nat.le_of_ble_eq_true rfl, Nat.le_of_ble_eq_true rfl⟩ dX7_land_107 rfl (fun r1 μ1 hp1 => ?_)
          obtain ⟨rfl, rfl⟩ := hp1
          refine J.pop hG dX7_land_110 (fun _ => rfl) ?_
          refine J.iinc hG dX7_land_111 (Nat.le_of_ble_eq_true rfl) rfl (fun _ => (by omega)) ?_
          refine J.goto hG 42 dX7_land_114 rfl ?_
          refine J.drop 2 (finb _ (σ 12 j) _ (by rw [up_self, q1]) (by omega) (hS2 j r4) (FrD_up r1 0 8 _ (by omega)) hr.symm)
      · refine J.aload_n hG dX7_land_65 rfl rfl ?_
        refine J.callV hG (X7_mayBegin _) ok_X7_mayBegin ml_X7_131 rfl rfl rfl rfl (Nat.le_of_ble_eq_true rfl) ⟨Nat.le_of_ble_eq_true rfl, Nat.le_of_ble_eq_true rfl⟩ dX7_land_66 rfl (fun r1 μ1 hp1 => ?_)
        obtain ⟨rfl, rfl⟩ := hp1
        refine J.if_eq hG 76 dX7_land_69 rfl (fun h69 => ?_) (fun h69 => ?_)
        · refine J.iconst hG dX7_land_76 (by decide) ?_
          refine J.callV hG (X7_takes_f _ h8) ok_X7_takes ml_X7_111 rfl rfl rfl rfl (Nat.le_of_ble_eq_true rfl) ⟨Nat.le_of_ble_eq_true rfl, Nat.le_of_ble_eq_true rfl⟩ dX7_land_77 rfl (fun r1 μ1 hp1 => ?_)
          obtain ⟨rfl, rfl⟩ := hp1
          have hbad : itemS σ = .inl (σ 12 j) := by
            rw [hit0, if_neg (fun w => ?_)]
            have q8 := mayS_1 w
            have q9 := q7 (by omega)
            unfold mMay at h69
            rw [q9, d1, d2, d3] at h69
            rcases q8 with ⟨u1, u2⟩ | ⟨u1, u2⟩ | ⟨u1, u2⟩ | ⟨u1, u2⟩ <;> (repeat' split at h69) <;> omega
          rw [hbad] at hr
          have hsb := hS j r4
          refine J.istore_n hG dX7_land_80 rfl (Nat.le_of_ble_eq_true rfl) ?_
          refine J.aload_n hG dX7_land_81 rfl rfl ?_
          refine J.callV hG (X7_isWell _) ok_X7_isWell ml_X7_104 rfl rfl rfl rfl (Nat.le_of_ble_eq_true rfl) ⟨Nat.le_of_ble_eq_true rfl, Nat.le_of_ble_eq_true rfl⟩ dX7_land_82 rfl (fun r1 μ1 hp1 => ?_)
          obtain ⟨rfl, rfl⟩ := hp1
          refine J.ifb_eq hG 93 dX7_land_85 rfl (fun h85 => ?_) (fun h85 => absurd h85 (by (try rw [up_self] at h85); omega))
          refine J.aload_n hG dX7_land_93 rfl rfl ?_
          refine J.aload_n hG dX7_land_94 rfl rfl ?_
          refine J.getI hG ciX7 rfl 5 5 rfl (Nat.le_of_ble_eq_true rfl) rfl fl_X7_95 dX7_land_95 ?_
          refine J.iconst hG dX7_land_98 (by decide) ?_
          refine J.icmp_ne hG 106 dX7_land_99 rfl (fun h99 => ?_) (fun h99 => ?_)
          · refine J.iconst hG dX7_land_106 (by decide) ?_
            refine J.callV hG (X7_takes_b _ _ (by rw [up_self]; omega)) ok_X7_takes ml_X7_111 rfl rfl rfl rfl (Nat.le_of_ble_eq_true rfl) ⟨Nat.le_of_ble_eq_true rfl, Nat.le_of_ble_eq_true rfl⟩ dX7_land_107 rfl (fun r1 μ1 hp1 => ?_)
            obtain ⟨rfl, rfl⟩ := hp1
            refine J.pop hG dX7_land_110 (fun _ => rfl) ?_
            refine J.iinc hG dX7_land_111 (Nat.le_of_ble_eq_true rfl) rfl (fun _ => (by omega)) ?_
            refine J.goto hG 42 dX7_land_114 rfl ?_
            refine J.drop 2 (finb _ (σ 12 j) _ (by rw [up_self, q1]) (by omega) (hS2 j r4) (FrD_up r1 0 8 _ (by omega)) hr.symm)
          · refine J.iconst hG dX7_land_102 (by decide) ?_
            refine J.goto hG 107 dX7_land_103 rfl ?_
            refine J.callV hG (X7_takes_b _ _ (by rw [up_self]; omega)) ok_X7_takes ml_X7_111 rfl rfl rfl rfl (Nat.le_of_ble_eq_true rfl) ⟨Nat.le_of_ble_eq_true rfl, Nat.le_of_ble_eq_true rfl⟩ dX7_land_107 rfl (fun r1 μ1 hp1 => ?_)
            obtain ⟨rfl, rfl⟩ := hp1
            refine J.pop hG dX7_land_110 (fun _ => rfl) ?_
            refine J.iinc hG dX7_land_111 (Nat.le_of_ble_eq_true rfl) rfl (fun _ => (by omega)) ?_
            refine J.goto hG 42 dX7_land_114 rfl ?_
            refine J.drop 2 (finb _ (σ 12 j) _ (by rw [up_self, q1]) (by omega) (hS2 j r4) (FrD_up r1 0 8 _ (by omega)) hr.symm)
        · refine J.iconst hG dX7_land_72 (by decide) ?_
          refine J.goto hG 77 dX7_land_73 rfl ?_
          refine J.callV hG (X7_takes_t _ h8 hT j r3 (by omega)) ok_X7_takes ml_X7_111 rfl rfl rfl rfl (Nat.le_of_ble_eq_true rfl) ⟨Nat.le_of_ble_eq_true rfl, Nat.le_of_ble_eq_true rfl⟩ dX7_land_77 rfl (fun r1 ν1 hp1 => ?_)
          obtain ⟨rfl, hF1, hA1⟩ := hp1
          have hmc : mayS σ (-σ 11 j) = 1 := by
            have q9 := q7 (by omega)
            unfold mMay at h69
            unfold mayS
            rw [q9, d1, d2, d3] at h69
            have q8 := q6.mp (by omega)
            (repeat' split at h69) <;> (repeat' split) <;> first | omega | (exfalso; omega)
          have hR1 : Rd m (j + 1) (incr σ 1 6) μs ν1 := Rd_take hR (by omega) hF1 hA1 (by simp [incr, up]) (by unfold incr; rw [up_cell _ _ _ (by decide)]) (by unfold incr; rw [up_cell _ _ _ (by decide)])
          have hI1 : PI m (incr σ 1 6) := PI_1 hI _ _ (fun _ => by have := hR1.2.2.2.1; omega) (fun w => by omega)
          have hGd1 : GD (incr σ 1 6) := GD_w hGd 1 _ _ (by simp)
          have hmi : mayS (incr σ 1 6) (-σ 11 j) = 1 := by unfold incr; rw [mayS_i]; exact hmc
          have hit1 : itemS σ = bnd (bodyS (incr σ 1 6) (-σ 11 j)) semS := by rw [hit0, if_pos hmc]
          have h81 : ν1 0 8 < 0 := by rw [hR1.2.1]; omega
          have q71 := q7 (by omega)
          rw [q71]
          refine J.istore_n hG dX7_land_80 rfl (Nat.le_of_ble_eq_true rfl) ?_
          refine J.aload_n hG dX7_land_81 rfl rfl ?_
          refine J.callV hG (X7_isWell _) ok_X7_isWell ml_X7_104 rfl rfl rfl rfl (Nat.le_of_ble_eq_true rfl) ⟨Nat.le_of_ble_eq_true rfl, Nat.le_of_ble_eq_true rfl⟩ dX7_land_82 rfl (fun r1 μ1 hp1 => ?_)
          obtain ⟨rfl, rfl⟩ := hp1
          refine J.ifb_eq hG 93 dX7_land_85 rfl (fun h85 => absurd h85 (by (try rw [up_self] at h85); omega)) (fun h85 => ?_)
          refine J.aload_n hG dX7_land_88 rfl rfl ?_
          refine J.iload_n hG dX7_land_89 rfl rfl ?_
          refine J.callV hG (X7_readsItem_a _ m (j + 1) (incr σ 1 6) μs (fun z hz => (hI1.1.2.2 z (by omega) (by omega)).2.1) hR1 h81 (MT_D hTs hR1.1) (Dr_6 (Dr_L hD hF1) _) hTs (by omega) hI1 _ hmi) ok_X7_readsItem ml_X7_134 rfl rfl rfl rfl (Nat.le_of_ble_eq_true rfl) ⟨Nat.le_of_ble_eq_true rfl, Nat.le_of_ble_eq_true rfl⟩ dX7_land_90 rfl (fun r1 ν2 hp1 => ?_)
          rcases hp1 with ⟨rfl, ⟨σ2, j2, hb, hR2, hD2⟩ | ⟨f, hb, hF2, hf, h0⟩⟩
          · rw [hb] at hit1
            have hg2 := bodyS_gd hI1 hGd1 hmi hb
            have hb7 := bodyS_7 hb
            obtain ⟨x1, x2, x3, x4, x5, x6⟩ := id hR2
            obtain ⟨w1, w2, w3, w4, w5, w6, w7, w8⟩ := Rd_J hR2
            have h82 : ν2 0 8 < 0 := by rw [x2]; omega
            refine J.aload_n hG dX7_land_93 rfl rfl ?_
            refine J.aload_n hG dX7_land_94 rfl rfl ?_
            refine J.getI hG ciX7 rfl 5 5 rfl (Nat.le_of_ble_eq_true rfl) rfl fl_X7_95 dX7_land_95 ?_
            refine J.iconst hG dX7_land_98 (by decide) ?_
            refine J.icmp_ne hG 106 dX7_land_99 rfl (fun h99 => ?_) (fun h99 => ?_)
            · refine J.iconst hG dX7_land_106 (by decide) ?_
              refine J.callV hG (X7_takes_f _ h82) ok_X7_takes ml_X7_111 rfl rfl rfl rfl (Nat.le_of_ble_eq_true rfl) ⟨Nat.le_of_ble_eq_true rfl, Nat.le_of_ble_eq_true rfl⟩ dX7_land_107 rfl (fun r1 μ1 hp1 => ?_)
              obtain ⟨rfl, rfl⟩ := hp1
              have hse : semS σ2 = .inl (σ2 12 (σ2 1 6)) := semS_no (by rw [x5]; omega)
              rw [show bnd (Sum.inr σ2 : Rs) semS = semS σ2 from rfl, hse] at hit1
              rw [hit1] at hr
              have hsb := hg2.1.1.2.2 j2 (by omega) (by omega)
              refine J.pop hG dX7_land_110 (fun _ => rfl) ?_
              refine J.iinc hG dX7_land_111 (Nat.le_of_ble_eq_true rfl) rfl (fun _ => (by omega)) ?_
              refine J.goto hG 42 dX7_land_114 rfl ?_
              refine J.drop 2 (finb _ (σ2 12 (σ2 1 6)) _ (by rw [up_self, w1, x5]) (by rw [x5]; omega) (by rw [x5]; omega) (FrD_up x1 0 8 _ (by omega)) hr.symm)
            · refine J.iconst hG dX7_land_102 (by decide) ?_
              refine J.goto hG 107 dX7_land_103 rfl ?_
              refine J.callV hG (X7_takes_t _ h82 (MT_D hTs x1) j2 x3 (by omega)) ok_X7_takes ml_X7_111 rfl rfl rfl rfl (Nat.le_of_ble_eq_true rfl) ⟨Nat.le_of_ble_eq_true rfl, Nat.le_of_ble_eq_true rfl⟩ dX7_land_107 rfl (fun r1 ν3 hp1 => ?_)
              obtain ⟨rfl, hF3, hA3⟩ := hp1
              have hse : semS σ2 = .inr (incr (up σ2 1 6 (σ2 1 6 + 1)) 1 7) := semS_ok (by rw [x5]; omega)
              rw [show bnd (Sum.inr σ2 : Rs) semS = semS σ2 from rfl, hse] at hit1
              rw [hit1] at hr
              refine J.pop hG dX7_land_110 (fun _ => rfl) ?_
              refine J.iinc hG dX7_land_111 (Nat.le_of_ble_eq_true rfl) rfl (fun _ => (by omega)) ?_
              refine J.goto hG 42 dX7_land_114 rfl ?_
              refine J.drop 2 (ih (it + 1) _ (j2 + 1) (incr (up σ2 1 6 (σ2 1 6 + 1)) 1 7) (Rd_take hR2 (by omega) hF3 hA3 (by simp [incr, up]) (by unfold incr; (repeat rw [up_cell _ _ _ (by decide)])) (by unfold incr; (repeat rw [up_cell _ _ _ (by decide)]))) (Dr_7 (Dr_6 (Dr_L hD2 hF3) _) _) ?_ (GD_w (GD_w hg2.2.1 1 _ _ (by simp)) 1 _ _ (by simp)) (by simp [incr, up, hb7, hit]) hr ?_ (by omega) (by omega))
              · exact (semS_gd hg2.1 hg2.2.1 hse).1
              · have u1 := hg2.2.2
                have u2 : incr σ 1 6 1 6 = σ 1 6 + 1 := by simp [incr, up]
                omega
          · rw [hb] at hit1
            rw [show bnd (Sum.inl f : Rs) semS = .inl f from rfl] at hit1
            rw [hit1] at hr
            refine J.aload_n hG dX7_land_93 rfl rfl ?_
            refine J.aload_n hG dX7_land_94 rfl rfl ?_
            refine J.getI hG ciX7 rfl 5 5 rfl (Nat.le_of_ble_eq_true rfl) rfl fl_X7_95 dX7_land_95 ?_
            refine J.iconst hG dX7_land_98 (by decide) ?_
            refine J.icmp_ne hG 106 dX7_land_99 rfl (fun h99 => ?_) (fun h99 => ?_)
            · refine J.iconst hG dX7_land_106 (by decide) ?_
              refine J.callV hG (X7_takes_b _ _ (by omega)) ok_X7_takes ml_X7_111 rfl rfl rfl rfl (Nat.le_of_ble_eq_true rfl) ⟨Nat.le_of_ble_eq_true rfl, Nat.le_of_ble_eq_true rfl⟩ dX7_land_107 rfl (fun r1 μ1 hp1 => ?_)
              obtain ⟨rfl, rfl⟩ := hp1
              refine J.pop hG dX7_land_110 (fun _ => rfl) ?_
              refine J.iinc hG dX7_land_111 (Nat.le_of_ble_eq_true rfl) rfl (fun _ => (by omega)) ?_
              refine J.goto hG 42 dX7_land_114 rfl ?_
              refine J.drop 2 (finb _ f _ hf h0 ?_ hF2 hr.symm)
              exact bodyS_f hI1 hmi hb
            · refine J.iconst hG dX7_land_102 (by decide) ?_
              refine J.goto hG 107 dX7_land_103 rfl ?_
              refine J.callV hG (X7_takes_b _ _ (by omega)) ok_X7_takes ml_X7_111 rfl rfl rfl rfl (Nat.le_of_ble_eq_true rfl) ⟨Nat.le_of_ble_eq_true rfl, Nat.le_of_ble_eq_true rfl⟩ dX7_land_107 rfl (fun r1 μ1 hp1 => ?_)
              obtain ⟨rfl, rfl⟩ := hp1
              refine J.pop hG dX7_land_110 (fun _ => rfl) ?_
              refine J.iinc hG dX7_land_111 (Nat.le_of_ble_eq_true rfl) rfl (fun _ => (by omega)) ?_
              refine J.goto hG 42 dX7_land_114 rfl ?_
              refine J.drop 2 (finb _ f _ hf h0 ?_ hF2 hr.symm)
              exact bodyS_f hI1 hmi hb
  rw [← hμs]
  refine lp 200 0 μs 0 σ0 ⟨FrD_0 μs, rfl, ?_, Nat.zero_le _, h6, Tk_D hTk hFs⟩ ⟨⟨?_, ?_, ?_⟩, Or.inl ⟨h9, ?_⟩, fun s a b => by omega, fun l s a b => by omega, fun p a b => by omega⟩ hI hGd h7.symm hR.symm (by have := hI.1.1; omega) (by decide) (by decide)
  · unfold AtJ
    rw [hμs, hFa.1 1 (by decide), hFa.2 3 (by omega)]
    exact hAa
  · rw [hμs, hFa.2 18 (by omega), h2.1, hμb]; simp [up]
  · rw [hμs, hFa.2 19 (by omega), h2.2.1, hμb]; simp [up]
  · rw [hμs, hFa.2 20 (by omega), h2.2.2, hμb]; simp [up]
  · rw [hμs, hFa.2 21 (by omega), hμb]; simp [up]


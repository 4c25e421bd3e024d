/-! land() side by side -/
section LD
variable (σ : Mem)
theorem lb_0 : lbec σ 13 0 = σ 2 0 := by simp [lbec, cpy, up]
theorem lb_1 : lbec σ 13 1 = σ 2 1 := by simp [lbec, cpy, up]
theorem lb_2 : lbec σ 13 2 = σ 2 2 := by simp [lbec, cpy, up]
theorem lb_3 : lbec σ 13 3 = σ 2 3 := by simp [lbec, cpy, up]
theorem lb_14 {j : Int} (h : 0 ≤ j ∧ j < 4) : lbec σ 14 j = σ 3 j := by simp [lbec, cpy, up, h.1, h.2]
theorem lb_15 {j : Int} (h : 0 ≤ j ∧ j < 16) : lbec σ 15 j = σ 4 j := by simp [lbec, cpy, up, h.1, h.2]
theorem lb_16 {j : Int} (h : 0 ≤ j ∧ j < 8) : lbec σ 16 j = σ 5 j := by simp [lbec, cpy, up, h.1, h.2]
theorem lb_c {c : Nat} (h : c < 13 ∨ 16 < c) : lbec σ c = σ c := by
  unfold lbec
  (try dsimp only)
  rw [cpy_ne _ _ (by omega), cpy_ne _ _ (by omega), cpy_ne _ _ (by omega), up_cell _ _ _ (by omega), up_cell _ _ _ (by omega), up_cell _ _ _ (by omega), up_cell _ _ _ (by omega)]
theorem lm_b {c : Nat} (h : c ≠ 1 ∧ c ≠ 21 ∧ c ≠ 65 ∧ c ≠ 71 ∧ c ≠ 64) : landM σ c = bec (lbec σ) 6 17 c := by
  unfold landM
  rw [up_cell _ _ _ h.2.2.2.2, up_cell _ _ _ h.2.2.2.2, up_cell _ _ _ h.2.2.2.1, up_cell _ _ _ h.2.2.1, up_cell _ _ _ h.2.1, up_cell _ _ _ h.1]
theorem lm_l {c : Nat} (h : 13 ≤ c ∧ c ≤ 16) : landM σ c = lbec σ c := by
  rw [lm_b σ (by omega), bec_cell _ _ _ _ (by omega)]
theorem lm_c {c : Nat} (h : c ≠ 1 ∧ c ≠ 21 ∧ c ≠ 65 ∧ c ≠ 71 ∧ c ≠ 64) (h2 : c < 13 ∨ 20 < c) : landM σ c = σ c := by
  rw [lm_b σ h, bec_cell _ _ _ _ (by omega), lb_c σ (by omega)]
theorem lm_17 : landM σ 17 0 = σ 6 0 ∧ landM σ 17 1 = σ 6 1 := by
  rw [lm_b σ (by omega), bec_0 _ (by omega), bec_1 _ (by omega), lb_c σ (by omega)]
  exact ⟨rfl, rfl⟩
theorem lm_18 {j : Int} (h : 0 ≤ j ∧ j < 16) : landM σ 18 j = σ 7 j := by
  rw [lm_b σ (by omega), show (18 : Nat) = 17 + 1 from rfl, bec_v _ (by omega) h, lb_c σ (by omega)]
theorem lm_19 {j : Int} (h : 0 ≤ j ∧ j < 4) : landM σ 19 j = σ 8 j := by
  rw [lm_b σ (by omega), show (19 : Nat) = 17 + 2 from rfl, bec_l _ (by omega) h, lb_c σ (by omega)]
theorem lm_20 {j : Int} (h : 0 ≤ j ∧ j < 4) : landM σ 20 j = σ 9 j := by
  rw [lm_b σ (by omega), show (20 : Nat) = 17 + 3 from rfl, bec_m _ (by omega) h, lb_c σ (by omega)]
theorem lm_x : landM σ 1 0 = 0 ∧ landM σ 21 0 = 0 ∧ landM σ 21 1 = σ 21 1 ∧ landM σ 65 0 = 0 ∧ landM σ 71 0 = 0 ∧ landM σ 64 0 = 0 ∧ landM σ 64 1 = 0 := by
  have e : bec (lbec σ) 6 17 21 1 = σ 21 1 := by rw [bec_cell _ _ _ _ (by omega), lb_c σ (by omega)]
  unfold landM
  refine ⟨by simp [up], by simp [up], ?_, by simp [up], by simp [up], by simp [up], by simp [up]⟩
  simp [up]
  exact e
end LD
theorem Sim_land {a b σ μ2 b1 : Mem} {m : Nat} (h : Sim a b) (hF : FrD b μ2) (hD : Dr σ μ2) (hS : Settled μ2 b1) (hI : PI m σ) (hG : GD σ) (e6 : σ 6 = a 6) (e10 : σ 10 = a 10) (e21 : σ 21 = a 21) (e1000 : σ 1000 = a 1000) : Sim (landM σ) b1 := by
  obtain ⟨h1, h2, h3, h4, h5, h6, h7, h8⟩ := h
  obtain ⟨f1, f2, f3, f4, f5⟩ := hF
  obtain ⟨⟨d1, d2, d3⟩, d4, d5, d6, d7⟩ := hD
  obtain ⟨s1, ⟨t14, t15, t16, t17, t3, t27, t30, t34, -⟩, s2, s3, s4, s5, s6, s7, s8⟩ := hS
  obtain ⟨-, -, p1, p2, p3, p4, -⟩ := hI
  obtain ⟨⟨g1, g9⟩, g2, g3⟩ := hG
  obtain ⟨x1, x2, x3, x4, x5, x6, x7⟩ := lm_x σ
  have l13 := lm_l σ (c := 13) (by omega)
  have l14 := lm_l σ (c := 14) (by omega)
  have l15 := lm_l σ (c := 15) (by omega)
  have l16 := lm_l σ (c := 16) (by omega)
  have c0 : landM σ 13 0 = σ 2 0 := by rw [l13, lb_0]
  have c1 : landM σ 13 1 = σ 2 1 := by rw [l13, lb_1]
  have c2 : landM σ 13 2 = σ 2 2 := by rw [l13, lb_2]
  have c3 : landM σ 13 3 = σ 2 3 := by rw [l13, lb_3]
  have hm : Mo (landM σ) 17 (b1 7) := by
    unfold Mo
    rw [c0, c1, (lm_17 σ).1, (lm_17 σ).2, e6, h1.2.2.1, h1.2.2.2, s5, s6]
    refine ⟨⟨rfl, rfl⟩, by omega, fun s u v => ?_, fun l s u1 v1 u v => ?_⟩
    · have q := d5 s u v
      rw [(s3 (2 * s) (by omega) (by omega)).2.2, (s3 (2 * s + 1) (by omega) (by omega)).2.2, show (8 : Int) + (2 * s + 1) = 9 + 2 * s by omega, q.2.1, q.2.2]
      exact ⟨(lm_19 σ ⟨u, by omega⟩).symm, (lm_20 σ ⟨u, by omega⟩).symm⟩
    · have q := d6 l s u1 v1 u v
      have g := g2 l s u1 v1 u v
      rw [show (8 : Int) + 4 * l + s = 8 + (4 * l + s) by omega, (s4 (4 * l + s) (by omega) (by omega)).2.2, show (16 : Int) + (4 * l + s) = 16 + 4 * l + s by omega, q.1, show (17 + 1 : Nat) = 18 from rfl, lm_18 σ ⟨by omega, by omega⟩, l14, lb_14 σ ⟨u, by omega⟩]
      exact ⟨rfl, g.2⟩
  refine ⟨⟨⟨by rw [t3, x1], ?_⟩, ?_, ?_, ?_⟩, ⟨⟨by rw [t14, d1, c0], by rw [t15, d2, c1], by rw [t16, d3, c2], ?_⟩, fun s u v => ?_, fun l s u1 v1 u v => ?_, fun p u v => ?_⟩, ⟨?_, ?_, hm⟩, ⟨?_, by rw [t27, x2], fun i u v => ?_⟩, fun i hi => ?_, ⟨?_, by rw [t30, x4], fun i u v => ?_⟩, ⟨?_, by rw [t34, x5], fun i u v => ?_⟩, ?_⟩
  · rw [s1 1 (by decide) (by decide) (by decide) (by decide) (by decide) (by decide) (by decide) (by decide), f1 1 (by omega), lm_c σ (by omega) (by omega), e10]
    exact h1.1.2
  · unfold XTx
    rw [x1]
    exact ⟨by omega, fun i u v => by omega⟩
  · rw [lm_c σ (by omega) (by omega), e6]
    exact h1.2.2.1
  · rw [lm_c σ (by omega) (by omega), e6]
    exact h1.2.2.2
  · rw [t17, c3]
    rcases d4 with ⟨q1, q2⟩ | ⟨q1, q2, q3, q4⟩
    · rw [if_pos q2, g9 q1]
    · rw [q2, if_neg (by omega)]
  · rw [c0] at v
    rw [s2 s u (by omega), (d5 s u v).1, l14, lb_14 σ ⟨u, by omega⟩]
  · rw [c1] at v1
    rw [c0] at v
    have q := d6 l s u1 v1 u v
    rw [(s4 (4 * l + s) (by omega) (by omega)).2.1, show (16 : Int) + (4 * l + s) = 16 + 4 * l + s by omega, q.2, l15, lb_15 σ ⟨by omega, by omega⟩]
  · rw [c2] at v
    rw [(s3 p u (by omega)).2.1, d7 p u v, l16, lb_16 σ ⟨u, by omega⟩]
  · unfold XB
    rw [c0, c1, c2, c3]
    refine ⟨p1, p2, p3, g1, fun s u v => ?_, fun l s u1 v1 u v => ?_⟩
    · rw [l14, lb_14 σ ⟨u, by omega⟩]
      exact p4 s u v
    · have g := g2 l s u1 v1 u v
      rw [l15, lb_15 σ ⟨by omega, by omega⟩, lm_18 σ ⟨by omega, by omega⟩, l14, lb_14 σ ⟨u, by omega⟩]
      exact ⟨g.1.1, g.1.2, g.2.1, g.2.2⟩
  · unfold XPl
    rw [c2]
    intro p u v
    rw [l16, lb_16 σ ⟨u, by omega⟩]
    exact g3 p u v
  · unfold XP
    rw [x2, x3, e21]
    have := h4.1
    unfold XP at this
    omega
  · rw [x2] at v
    omega
  · rcases hi with rfl | rfl
    · exact ⟨by rw [s7, x6], fun w => absurd x6 w⟩
    · exact ⟨by rw [s8, x7], fun w => absurd x7 w⟩
  · unfold XPn
    rw [x4]
    exact ⟨by omega, fun i u v => by omega⟩
  · rw [x4] at v
    omega
  · unfold XBk
    rw [x5]
    exact ⟨by omega, fun i u v => by omega⟩
  · rw [x5] at v
    omega
  · unfold S8
    rw [s1 1000 (by decide) (by decide) (by decide) (by decide) (by decide) (by decide) (by decide) (by decide), f1 1000 (by omega), lm_c σ (by omega) (by omega), e1000]
    exact h8
theorem st_land : St md_X6_land md_X7_land [] aI := by
  intro a b h0
  have h := Sim_th h0
  obtain ⟨h1, h2, h3, h4, h5, h6, h7, h8⟩ := id h
  refine ⟨_, X6_land a h1.2.1, ?_⟩
  intro r a1 hp
  obtain ⟨ν, m, w1, w2, hp⟩ := hp
  have n1 : ν 1 = a 1 := w1 1 (by decide) (by decide)
  have n10 : ν 10 = a 10 := w1 10 (by decide) (by decide)
  have hTn : XTx ν := by unfold XTx; rw [n1, n10]; exact h1.2.1
  have hI := PI_start hTn w2
  have hT0 : MT (th b) := by
    unfold MT
    rw [h1.1.1, h1.1.2]
    exact h1.2.1
  have u11 : startS ν 11 = ν 11 := by unfold startS empS; (repeat rw [up_cell _ _ _ (by decide)])
  have u12 : startS ν 12 = ν 12 := by unfold startS empS; (repeat rw [up_cell _ _ _ (by decide)])
  have hTk : Tk m (th b 1) (th b 0 3) (startS ν) := by
    unfold Tk
    rw [h1.1.1, h1.1.2, u11, u12, ← n10, ← n1]
    exact ⟨fun j hj => ⟨⟨(w2.1 j hj).1, (w2.1 j hj).2.1⟩, (w2.1 j hj).2.2.1, (w2.1 j hj).2.2.2⟩, w2.2.1, w2.2.2.1, w2.2.2.2.1⟩
  refine ⟨_, X7_land b (th b) rfl hT0 m (startS ν) hTk hI (GD_start ν) (by simp [startS, empS, up]) (by simp [startS, empS, up]) (by simp [startS, empS, up]) ⟨by simp [startS, empS, up], by simp [startS, empS, up], by simp [startS, empS, up]⟩, ?_⟩
  intro r2 b1 hq
  rcases hp with ⟨f, g0, g1, rfl, g2⟩ | ⟨σ, g1, rfl, rfl, g2, g3, g4⟩
  · rcases hq with ⟨f', k1, rfl, k2⟩ | ⟨σ', μ2, k1, -⟩
    · rw [g1] at k1
      injection k1 with k1
      subst k1
      refine ⟨_, rfl, rfl, ?_⟩
      have A : ∀ c : Nat, (c = 0 ∨ c = 6 ∨ 9 < c) → c ≠ 11 → c ≠ 12 → a1 c = a c := fun c hc u v => by rw [g2.1 c hc, w1 c u v]
      have a10 : a1 1 0 = a 1 0 := by rw [g2.2.1, n1]
      obtain ⟨f1, f2, f3, f4, f5⟩ := k2
      exact ⟨S1_c h1 a10 (A 10 (by omega) (by omega) (by omega)) (A 6 (by omega) (by omega) (by omega)) (f2 3 (by omega)) (f1 1 (by omega)),
        S2_c h2 h3.1 (A 13 (by omega) (by omega) (by omega)) (A 14 (by omega) (by omega) (by omega)) (A 15 (by omega) (by omega) (by omega)) (A 16 (by omega) (by omega) (by omega)) (fun j u v => f2 j (by omega)) (fun j u v => f3 j v) (fun j u v => (f5 j v).2) (fun j u v => (f4 j v).2),
        S3_c h3 (A 13 (by omega) (by omega) (by omega)) (A 14 (by omega) (by omega) (by omega)) (A 15 (by omega) (by omega) (by omega)) (A 16 (by omega) (by omega) (by omega)) (A 17 (by omega) (by omega) (by omega)) (A 18 (by omega) (by omega) (by omega)) (A 19 (by omega) (by omega) (by omega)) (A 20 (by omega) (by omega) (by omega)) (f1 7 (by omega)),
        S4_c h4 h3.1 (A 13 (by omega) (by omega) (by omega)) (A 14 (by omega) (by omega) (by omega)) (A 21 (by omega) (by omega) (by omega)) (fun c u v => A c (by omega) (by omega) (by omega)) (f2 27 (by omega)) (f1 11 (by omega)),
        S5_c h5 h3.1 (A 13 (by omega) (by omega) (by omega)) (A 14 (by omega) (by omega) (by omega)) (A 64 (by omega) (by omega) (by omega)) (fun c u v => A c (by omega) (by omega) (by omega)) (f1 9 (by omega)) (f1 10 (by omega)),
        S6_c h6 (by rw [A 13 (by omega) (by omega) (by omega)]) (by rw [A 65 (by omega) (by omega) (by omega)]) (A 66 (by omega) (by omega) (by omega)) (A 67 (by omega) (by omega) (by omega)) (f2 30 (by omega)) (f1 12 (by omega)) (f1 13 (by omega)),
        S7_c h7 (by rw [A 71 (by omega) (by omega) (by omega)]) (A 72 (by omega) (by omega) (by omega)) (A 73 (by omega) (by omega) (by omega)) (A 74 (by omega) (by omega) (by omega)) (f2 34 (by omega)) (f1 14 (by omega)) (f1 15 (by omega)) (f1 16 (by omega)),
        S8_c h8 (by rw [A 1000 (by omega) (by omega) (by omega)]) (by rw [f1 1000 (by omega)])⟩
    · rw [g1] at k1
      cases k1
  · rcases hq with ⟨f', k1, -⟩ | ⟨σ', μ2, k1, rfl, k2, k3, k4⟩
    · rw [g1] at k1
      cases k1
    · rw [g1] at k1
      injection k1 with k1
      subst k1
      have hg := loopS_gd 200 _ _ hI (GD_start ν) g1
      exact ⟨_, rfl, rfl, Sim_land h k2 k3 k4 hg.1 hg.2 (by rw [g3 6 (by omega), w1 6 (by decide) (by decide)]) (by rw [g3 10 (by omega), n10]) (by rw [g3 21 (by omega), w1 21 (by decide) (by decide)]) (by rw [g3 1000 (by omega), w1 1000 (by decide) (by decide)])⟩

section CX
variable {a b a1 b1 : Mem}
theorem Sim_x1 (h : Sim a b) (n1 : S1 a1 b1) (ha : ∀ c : Nat, (c ≠ 1 ∧ c ≠ 10) → a1 c = a c) (hb0 : ∀ j : Int, (3 < j) → b1 0 j = b 0 j) (hb : ∀ c : Nat, (c ≠ 0 ∧ c ≠ 1) → b1 c = b c) : Sim a1 b1 := by
  obtain ⟨h1, h2, h3, h4, h5, h6, h7, h8⟩ := h
  exact ⟨n1, S2_c h2 h3.1 (ha 13 (by omega)) (ha 14 (by omega)) (ha 15 (by omega)) (ha 16 (by omega)) (fun j p q => hb0 j (by first | trivial | omega)) (fun j _ _ => by rw [hb 2 (by omega)]) (fun j _ _ => by rw [hb 5 (by omega)]) (fun j _ _ => by rw [hb 6 (by omega)]), S3_c h3 (ha 13 (by omega)) (ha 14 (by omega)) (ha 15 (by omega)) (ha 16 (by omega)) (ha 17 (by omega)) (ha 18 (by omega)) (ha 19 (by omega)) (ha 20 (by omega)) (hb 7 (by omega)), S4_c h4 h3.1 (ha 13 (by omega)) (ha 14 (by omega)) (ha 21 (by omega)) (fun c p q => ha c (by omega)) (hb0 27 (by first | trivial | omega)) (hb 11 (by omega)), S5_c h5 h3.1 (ha 13 (by omega)) (ha 14 (by omega)) (ha 64 (by omega)) (fun c p q => ha c (by omega)) (hb 9 (by omega)) (hb 10 (by omega)), S6_c h6 (by rw [ha 13 (by omega)]) (by rw [ha 65 (by omega)]) (ha 66 (by omega)) (ha 67 (by omega)) (hb0 30 (by first | trivial | omega)) (hb 12 (by omega)) (hb 13 (by omega)), S7_c h7 (by rw [ha 71 (by omega)]) (ha 72 (by omega)) (ha 73 (by omega)) (ha 74 (by omega)) (hb0 34 (by first | trivial | omega)) (hb 14 (by omega)) (hb 15 (by omega)) (hb 16 (by omega)), S8_c h8 (by rw [ha 1000 (by omega)]) (by rw [hb 1000 (by omega)])⟩
theorem Sim_x3 (h : Sim a b) (n3 : S3 a1 b1) (ha : ∀ c : Nat, (c < 17 ∨ 20 < c) → a1 c = a c) (hb0 : ∀ j : Int, (True) → b1 0 j = b 0 j) (hb : ∀ c : Nat, (c ≠ 7) → b1 c = b c) : Sim a1 b1 := by
  obtain ⟨h1, h2, h3, h4, h5, h6, h7, h8⟩ := h
  exact ⟨S1_c h1 (by rw [ha 1 (by omega)]) (ha 10 (by omega)) (ha 6 (by omega)) (hb0 3 (by first | trivial | omega)) (hb 1 (by omega)), S2_c h2 h3.1 (ha 13 (by omega)) (ha 14 (by omega)) (ha 15 (by omega)) (ha 16 (by omega)) (fun j p q => hb0 j (by first | trivial | omega)) (fun j _ _ => by rw [hb 2 (by omega)]) (fun j _ _ => by rw [hb 5 (by omega)]) (fun j _ _ => by rw [hb 6 (by omega)]), n3, S4_c h4 h3.1 (ha 13 (by omega)) (ha 14 (by omega)) (ha 21 (by omega)) (fun c p q => ha c (by omega)) (hb0 27 (by first | trivial | omega)) (hb 11 (by omega)), S5_c h5 h3.1 (ha 13 (by omega)) (ha 14 (by omega)) (ha 64 (by omega)) (fun c p q => ha c (by omega)) (hb 9 (by omega)) (hb 10 (by omega)), S6_c h6 (by rw [ha 13 (by omega)]) (by rw [ha 65 (by omega)]) (ha 66 (by omega)) (ha 67 (by omega)) (hb0 30 (by first | trivial | omega)) (hb 12 (by omega)) (hb 13 (by omega)), S7_c h7 (by rw [ha 71 (by omega)]) (ha 72 (by omega)) (ha 73 (by omega)) (ha 74 (by omega)) (hb0 34 (by first | trivial | omega)) (hb 14 (by omega)) (hb 15 (by omega)) (hb 16 (by omega)), S8_c h8 (by rw [ha 1000 (by omega)]) (by rw [hb 1000 (by omega)])⟩
theorem Sim_x4 (h : Sim a b) (n4 : S4 a1 b1) (ha : ∀ c : Nat, (c < 21 ∨ 62 < c) → a1 c = a c) (hb0 : ∀ j : Int, (j ≠ 27) → b1 0 j = b 0 j) (hb : ∀ c : Nat, (c ≠ 0 ∧ c ≠ 11) → b1 c = b c) : Sim a1 b1 := by
  obtain ⟨h1, h2, h3, h4, h5, h6, h7, h8⟩ := h
  exact ⟨S1_c h1 (by rw [ha 1 (by omega)]) (ha 10 (by omega)) (ha 6 (by omega)) (hb0 3 (by first | trivial | omega)) (hb 1 (by omega)), S2_c h2 h3.1 (ha 13 (by omega)) (ha 14 (by omega)) (ha 15 (by omega)) (ha 16 (by omega)) (fun j p q => hb0 j (by first | trivial | omega)) (fun j _ _ => by rw [hb 2 (by omega)]) (fun j _ _ => by rw [hb 5 (by omega)]) (fun j _ _ => by rw [hb 6 (by omega)]), S3_c h3 (ha 13 (by omega)) (ha 14 (by omega)) (ha 15 (by omega)) (ha 16 (by omega)) (ha 17 (by omega)) (ha 18 (by omega)) (ha 19 (by omega)) (ha 20 (by omega)) (hb 7 (by omega)), n4, S5_c h5 h3.1 (ha 13 (by omega)) (ha 14 (by omega)) (ha 64 (by omega)) (fun c p q => ha c (by omega)) (hb 9 (by omega)) (hb 10 (by omega)), S6_c h6 (by rw [ha 13 (by omega)]) (by rw [ha 65 (by omega)]) (ha 66 (by omega)) (ha 67 (by omega)) (hb0 30 (by first | trivial | omega)) (hb 12 (by omega)) (hb 13 (by omega)), S7_c h7 (by rw [ha 71 (by omega)]) (ha 72 (by omega)) (ha 73 (by omega)) (ha 74 (by omega)) (hb0 34 (by first | trivial | omega)) (hb 14 (by omega)) (hb 15 (by omega)) (hb 16 (by omega)), S8_c h8 (by rw [ha 1000 (by omega)]) (by rw [hb 1000 (by omega)])⟩
theorem Sim_x34 (h : Sim a b) (n3 : S3 a1 b1) (n4 : S4 a1 b1) (ha : ∀ c : Nat, (c < 17 ∨ (20 < c ∧ c < 21) ∨ 62 < c) → a1 c = a c) (hb0 : ∀ j : Int, (j ≠ 27) → b1 0 j = b 0 j) (hb : ∀ c : Nat, (c ≠ 0 ∧ c ≠ 7 ∧ c ≠ 11) → b1 c = b c) : Sim a1 b1 := by
  obtain ⟨h1, h2, h3, h4, h5, h6, h7, h8⟩ := h
  exact ⟨S1_c h1 (by rw [ha 1 (by omega)]) (ha 10 (by omega)) (ha 6 (by omega)) (hb0 3 (by first | trivial | omega)) (hb 1 (by omega)), S2_c h2 h3.1 (ha 13 (by omega)) (ha 14 (by omega)) (ha 15 (by omega)) (ha 16 (by omega)) (fun j p q => hb0 j (by first | trivial | omega)) (fun j _ _ => by rw [hb 2 (by omega)]) (fun j _ _ => by rw [hb 5 (by omega)]) (fun j _ _ => by rw [hb 6 (by omega)]), n3, n4, S5_c h5 h3.1 (ha 13 (by omega)) (ha 14 (by omega)) (ha 64 (by omega)) (fun c p q => ha c (by omega)) (hb 9 (by omega)) (hb 10 (by omega)), S6_c h6 (by rw [ha 13 (by omega)]) (by rw [ha 65 (by omega)]) (ha 66 (by omega)) (ha 67 (by omega)) (hb0 30 (by first | trivial | omega)) (hb 12 (by omega)) (hb 13 (by omega)), S7_c h7 (by rw [ha 71 (by omega)]) (ha 72 (by omega)) (ha 73 (by omega)) (ha 74 (by omega)) (hb0 34 (by first | trivial | omega)) (hb 14 (by omega)) (hb 15 (by omega)) (hb 16 (by omega)), S8_c h8 (by rw [ha 1000 (by omega)]) (by rw [hb 1000 (by omega)])⟩
theorem Sim_x5 (h : Sim a b) (n5 : S5 a1 b1) (ha : ∀ c : Nat, (c ≠ 64 ∧ (c < 77 ∨ 84 < c)) → a1 c = a c) (hb0 : ∀ j : Int, (True) → b1 0 j = b 0 j) (hb : ∀ c : Nat, (c ≠ 9 ∧ c ≠ 10) → b1 c = b c) : Sim a1 b1 := by
  obtain ⟨h1, h2, h3, h4, h5, h6, h7, h8⟩ := h
  exact ⟨S1_c h1 (by rw [ha 1 (by omega)]) (ha 10 (by omega)) (ha 6 (by omega)) (hb0 3 (by first | trivial | omega)) (hb 1 (by omega)), S2_c h2 h3.1 (ha 13 (by omega)) (ha 14 (by omega)) (ha 15 (by omega)) (ha 16 (by omega)) (fun j p q => hb0 j (by first | trivial | omega)) (fun j _ _ => by rw [hb 2 (by omega)]) (fun j _ _ => by rw [hb 5 (by omega)]) (fun j _ _ => by rw [hb 6 (by omega)]), S3_c h3 (ha 13 (by omega)) (ha 14 (by omega)) (ha 15 (by omega)) (ha 16 (by omega)) (ha 17 (by omega)) (ha 18 (by omega)) (ha 19 (by omega)) (ha 20 (by omega)) (hb 7 (by omega)), S4_c h4 h3.1 (ha 13 (by omega)) (ha 14 (by omega)) (ha 21 (by omega)) (fun c p q => ha c (by omega)) (hb0 27 (by first | trivial | omega)) (hb 11 (by omega)), n5, S6_c h6 (by rw [ha 13 (by omega)]) (by rw [ha 65 (by omega)]) (ha 66 (by omega)) (ha 67 (by omega)) (hb0 30 (by first | trivial | omega)) (hb 12 (by omega)) (hb 13 (by omega)), S7_c h7 (by rw [ha 71 (by omega)]) (ha 72 (by omega)) (ha 73 (by omega)) (ha 74 (by omega)) (hb0 34 (by first | trivial | omega)) (hb 14 (by omega)) (hb 15 (by omega)) (hb 16 (by omega)), S8_c h8 (by rw [ha 1000 (by omega)]) (by rw [hb 1000 (by omega)])⟩
theorem Sim_x6 (h : Sim a b) (n6 : S6 a1 b1) (ha : ∀ c : Nat, (c ≠ 65 ∧ c ≠ 66 ∧ c ≠ 67) → a1 c = a c) (hb0 : ∀ j : Int, (j ≠ 30) → b1 0 j = b 0 j) (hb : ∀ c : Nat, (c ≠ 0 ∧ c ≠ 12 ∧ c ≠ 13) → b1 c = b c) : Sim a1 b1 := by
  obtain ⟨h1, h2, h3, h4, h5, h6, h7, h8⟩ := h
  exact ⟨S1_c h1 (by rw [ha 1 (by omega)]) (ha 10 (by omega)) (ha 6 (by omega)) (hb0 3 (by first | trivial | omega)) (hb 1 (by omega)), S2_c h2 h3.1 (ha 13 (by omega)) (ha 14 (by omega)) (ha 15 (by omega)) (ha 16 (by omega)) (fun j p q => hb0 j (by first | trivial | omega)) (fun j _ _ => by rw [hb 2 (by omega)]) (fun j _ _ => by rw [hb 5 (by omega)]) (fun j _ _ => by rw [hb 6 (by omega)]), S3_c h3 (ha 13 (by omega)) (ha 14 (by omega)) (ha 15 (by omega)) (ha 16 (by omega)) (ha 17 (by omega)) (ha 18 (by omega)) (ha 19 (by omega)) (ha 20 (by omega)) (hb 7 (by omega)), S4_c h4 h3.1 (ha 13 (by omega)) (ha 14 (by omega)) (ha 21 (by omega)) (fun c p q => ha c (by omega)) (hb0 27 (by first | trivial | omega)) (hb 11 (by omega)), S5_c h5 h3.1 (ha 13 (by omega)) (ha 14 (by omega)) (ha 64 (by omega)) (fun c p q => ha c (by omega)) (hb 9 (by omega)) (hb 10 (by omega)), n6, S7_c h7 (by rw [ha 71 (by omega)]) (ha 72 (by omega)) (ha 73 (by omega)) (ha 74 (by omega)) (hb0 34 (by first | trivial | omega)) (hb 14 (by omega)) (hb 15 (by omega)) (hb 16 (by omega)), S8_c h8 (by rw [ha 1000 (by omega)]) (by rw [hb 1000 (by omega)])⟩
theorem Sim_x7 (h : Sim a b) (n7 : S7 a1 b1) (ha : ∀ c : Nat, (c < 71 ∨ 74 < c) → a1 c = a c) (hb0 : ∀ j : Int, (j ≠ 34) → b1 0 j = b 0 j) (hb : ∀ c : Nat, (c ≠ 0 ∧ c ≠ 14 ∧ c ≠ 15 ∧ c ≠ 16) → b1 c = b c) : Sim a1 b1 := by
  obtain ⟨h1, h2, h3, h4, h5, h6, h7, h8⟩ := h
  exact ⟨S1_c h1 (by rw [ha 1 (by omega)]) (ha 10 (by omega)) (ha 6 (by omega)) (hb0 3 (by first | trivial | omega)) (hb 1 (by omega)), S2_c h2 h3.1 (ha 13 (by omega)) (ha 14 (by omega)) (ha 15 (by omega)) (ha 16 (by omega)) (fun j p q => hb0 j (by first | trivial | omega)) (fun j _ _ => by rw [hb 2 (by omega)]) (fun j _ _ => by rw [hb 5 (by omega)]) (fun j _ _ => by rw [hb 6 (by omega)]), S3_c h3 (ha 13 (by omega)) (ha 14 (by omega)) (ha 15 (by omega)) (ha 16 (by omega)) (ha 17 (by omega)) (ha 18 (by omega)) (ha 19 (by omega)) (ha 20 (by omega)) (hb 7 (by omega)), S4_c h4 h3.1 (ha 13 (by omega)) (ha 14 (by omega)) (ha 21 (by omega)) (fun c p q => ha c (by omega)) (hb0 27 (by first | trivial | omega)) (hb 11 (by omega)), S5_c h5 h3.1 (ha 13 (by omega)) (ha 14 (by omega)) (ha 64 (by omega)) (fun c p q => ha c (by omega)) (hb 9 (by omega)) (hb 10 (by omega)), S6_c h6 (by rw [ha 13 (by omega)]) (by rw [ha 65 (by omega)]) (ha 66 (by omega)) (ha 67 (by omega)) (hb0 30 (by first | trivial | omega)) (hb 12 (by omega)) (hb 13 (by omega)), n7, S8_c h8 (by rw [ha 1000 (by omega)]) (by rw [hb 1000 (by omega)])⟩
theorem Sim_x8 (h : Sim a b) (n8 : S8 a1 b1) (ha : ∀ c : Nat, (c ≠ 1000) → a1 c = a c) (hb0 : ∀ j : Int, (True) → b1 0 j = b 0 j) (hb : ∀ c : Nat, (c ≠ 1000) → b1 c = b c) : Sim a1 b1 := by
  obtain ⟨h1, h2, h3, h4, h5, h6, h7, h8⟩ := h
  exact ⟨S1_c h1 (by rw [ha 1 (by omega)]) (ha 10 (by omega)) (ha 6 (by omega)) (hb0 3 (by first | trivial | omega)) (hb 1 (by omega)), S2_c h2 h3.1 (ha 13 (by omega)) (ha 14 (by omega)) (ha 15 (by omega)) (ha 16 (by omega)) (fun j p q => hb0 j (by first | trivial | omega)) (fun j _ _ => by rw [hb 2 (by omega)]) (fun j _ _ => by rw [hb 5 (by omega)]) (fun j _ _ => by rw [hb 6 (by omega)]), S3_c h3 (ha 13 (by omega)) (ha 14 (by omega)) (ha 15 (by omega)) (ha 16 (by omega)) (ha 17 (by omega)) (ha 18 (by omega)) (ha 19 (by omega)) (ha 20 (by omega)) (hb 7 (by omega)), S4_c h4 h3.1 (ha 13 (by omega)) (ha 14 (by omega)) (ha 21 (by omega)) (fun c p q => ha c (by omega)) (hb0 27 (by first | trivial | omega)) (hb 11 (by omega)), S5_c h5 h3.1 (ha 13 (by omega)) (ha 14 (by omega)) (ha 64 (by omega)) (fun c p q => ha c (by omega)) (hb 9 (by omega)) (hb 10 (by omega)), S6_c h6 (by rw [ha 13 (by omega)]) (by rw [ha 65 (by omega)]) (ha 66 (by omega)) (ha 67 (by omega)) (hb0 30 (by first | trivial | omega)) (hb 12 (by omega)) (hb 13 (by omega)), S7_c h7 (by rw [ha 71 (by omega)]) (ha 72 (by omega)) (ha 73 (by omega)) (ha 74 (by omega)) (hb0 34 (by first | trivial | omega)) (hb 14 (by omega)) (hb 15 (by omega)) (hb 16 (by omega)), n8⟩
end CX
theorem st_type (x : Int) : St md_X6_type md_X7_type [aI x] aI := by
  intro a b h0
  have h := Sim_th h0
  obtain ⟨h1, h2, h3, h4, h5, h6, h7, h8⟩ := id h
  have hM := br_MB h2 h3
  have hB := h3.1
  obtain ⟨⟨y0, y1⟩, ⟨y2, y3⟩, hla, hva⟩ := id h3.2.2
  refine ⟨_, X6_type a x h1.2.1.1, ?_⟩
  intro r a1 hp
  refine ⟨_, X7_type b (th b) rfl (by rw [h1.1.1]; exact h1.2.1.1) x, ?_⟩
  intro r2 b1 hq
  (try dsimp only at hp hq)
  rw [h1.1.1] at hq
  by_cases c1 : 0 ≤ x ∧ x ≤ 255
  · rw [if_neg (fun w => w c1)] at hp hq
    by_cases c2 : a 1 0 = 200
    · rw [if_pos c2] at hp hq
      obtain ⟨rfl, rfl⟩ := hp
      obtain ⟨rfl, rfl⟩ := hq
      exact ⟨_, rfl, rfl, h⟩
    · rw [if_neg c2] at hp hq
      obtain ⟨rfl, rfl⟩ := hp
      obtain ⟨rfl, rfl⟩ := hq
      refine ⟨_, rfl, rfl, Sim_x1 h ⟨⟨by simp [up], ?_⟩, ⟨?_, fun i p q => ?_⟩, ?_, ?_⟩ (fun c hc => by rw [up_cell _ _ _ hc.1, up_cell _ _ _ hc.2]) (fun j hj => by rw [up_ne _ (fun w => by omega), up_ne _ (fun w => by omega)]) (fun c hc => by rw [up_cell _ _ _ hc.1, up_cell _ _ _ hc.2])⟩
      · funext j
        have e := congrFun h1.1.2 j
        by_cases hj : j = a 1 0
        · simp [up, hj]
        · simp [up, hj]
          exact e
      · have := h1.2.1.1
        rw [up_self]
        omega
      · rw [up_self] at q
        rw [up_cell _ _ _ (by decide)]
        by_cases hi : i = a 1 0
        · rw [hi, up_self]; exact c1
        · rw [up_ne _ (fun w => hi w.2)]; exact h1.2.1.2 i p (by omega)
      · simp [up, h1.2.2.1]
      · simp [up, h1.2.2.2]
  · rw [if_pos c1] at hp hq
    obtain ⟨rfl, rfl⟩ := hp
    obtain ⟨rfl, rfl⟩ := hq
    exact ⟨_, rfl, rfl, h⟩
theorem st_clear : St md_X6_clear md_X7_clear [] aI := by
  intro a b h0
  have h := Sim_th h0
  obtain ⟨h1, h2, h3, h4, h5, h6, h7, h8⟩ := id h
  have hM := br_MB h2 h3
  have hB := h3.1
  obtain ⟨⟨y0, y1⟩, ⟨y2, y3⟩, hla, hva⟩ := id h3.2.2
  refine ⟨_, X6_clear a, ?_⟩
  intro r a1 hp
  refine ⟨_, X7_clear b (th b) rfl, ?_⟩
  intro r2 b1 hq
  (try dsimp only at hp hq)
  rw [h1.1.1] at hq
  obtain ⟨rfl, rfl⟩ := hp
  obtain ⟨rfl, rfl⟩ := hq
  refine ⟨_, rfl, rfl, Sim_x1 h ⟨⟨by simp [up], ?_⟩, ⟨by rw [up_self]; omega, fun i p q => ?_⟩, ?_, ?_⟩ (fun c hc => by rw [up_cell _ _ _ hc.1]) (fun j hj => by rw [up_ne _ (fun w => by omega)]) (fun c hc => by rw [up_cell _ _ _ hc.1])⟩
  · rw [up_cell _ _ _ (by decide), up_cell _ _ _ (by decide)]
    exact h1.1.2
  · rw [up_self] at q
    omega
  · simp [up, h1.2.2.1]
  · simp [up, h1.2.2.2]
theorem st_plans (s k : Int) : St md_X6_plans md_X7_plans [aI s, aI k] aI := by
  intro a b h0
  have h := Sim_th h0
  obtain ⟨h1, h2, h3, h4, h5, h6, h7, h8⟩ := id h
  have hM := br_MB h2 h3
  have hB := h3.1
  obtain ⟨⟨y0, y1⟩, ⟨y2, y3⟩, hla, hva⟩ := id h3.2.2
  refine ⟨_, X6_plans a hB h6.1.1 s k, ?_⟩
  intro r a1 hp
  refine ⟨_, X7_plans b (th b) rfl hM (by rw [h6.2.1]; exact h6.1.1) s k, ?_⟩
  intro r2 b1 hq
  (try dsimp only at hp hq)
  rw [h2.1.1, h6.2.1] at hq
  by_cases c1 : (0 ≤ s ∧ s < a 13 0) ∧ (-9 ≤ k ∧ k ≤ 9)
  · rw [if_neg (fun w => w c1)] at hp hq
    by_cases c2 : a 65 0 = 5
    · rw [if_pos c2] at hp hq
      obtain ⟨rfl, rfl⟩ := hp
      obtain ⟨rfl, rfl⟩ := hq
      exact ⟨_, rfl, rfl, h⟩
    · rw [if_neg c2] at hp hq
      obtain ⟨rfl, rfl⟩ := hp
      obtain ⟨rfl, rfl⟩ := hq
      have g0 := h6.1.1
      refine ⟨_, rfl, rfl, Sim_x6 h ⟨⟨by rw [up_self]; omega, fun i p q => ?_⟩, by rw [up_self, up_self], fun i p q => ?_⟩ (fun c hc => by rw [up_cell _ _ _ hc.1, up_cell _ _ _ hc.2.2, up_cell _ _ _ hc.2.1]) (fun j hj => by rw [up_ne _ (fun w => hj w.2), up_cell _ _ _ (by decide), up_cell _ _ _ (by decide)]) (fun c hc => by rw [up_cell _ _ _ hc.1, up_cell _ _ _ hc.2.2, up_cell _ _ _ hc.2.1])⟩
      · rw [up_self] at q
        by_cases hi : i = a 65 0
        · simp [up, hi]
          omega
        · have g := h6.1.2 i p (by omega)
          simp [up, hi]
          omega
      · rw [up_self] at q
        by_cases hi : i = a 65 0
        · simp [up, hi]
        · have g := h6.2.2 i p (by omega)
          simp [up, hi]
          exact g
  · rw [if_pos c1] at hp hq
    obtain ⟨rfl, rfl⟩ := hp
    obtain ⟨rfl, rfl⟩ := hq
    exact ⟨_, rfl, rfl, h⟩
theorem st_drop : St md_X6_drop md_X7_drop [] aI := by
  intro a b h0
  have h := Sim_th h0
  obtain ⟨h1, h2, h3, h4, h5, h6, h7, h8⟩ := id h
  have hM := br_MB h2 h3
  have hB := h3.1
  obtain ⟨⟨y0, y1⟩, ⟨y2, y3⟩, hla, hva⟩ := id h3.2.2
  refine ⟨_, X6_drop a, ?_⟩
  intro r a1 hp
  refine ⟨_, X7_drop b (th b) rfl, ?_⟩
  intro r2 b1 hq
  (try dsimp only at hp hq)
  rw [h6.2.1] at hq
  obtain ⟨rfl, rfl⟩ := hp
  obtain ⟨rfl, rfl⟩ := hq
  refine ⟨_, rfl, rfl, Sim_x6 h ⟨⟨by rw [up_self]; omega, fun i p q => ?_⟩, by rw [up_self, up_self], fun i p q => ?_⟩ (fun c hc => by rw [up_cell _ _ _ hc.1]) (fun j hj => by rw [up_ne _ (fun w => hj w.2)]) (fun c hc => by rw [up_cell _ _ _ hc.1])⟩
  · rw [up_self] at q
    omega
  · rw [up_self] at q
    omega
theorem st_books (s y e : Int) : St md_X6_books md_X7_books [aI s, aI y, aI e] aI := by
  intro a b h0
  have h := Sim_th h0
  obtain ⟨h1, h2, h3, h4, h5, h6, h7, h8⟩ := id h
  have hM := br_MB h2 h3
  have hB := h3.1
  obtain ⟨⟨y0, y1⟩, ⟨y2, y3⟩, hla, hva⟩ := id h3.2.2
  refine ⟨_, X6_books a hB h7.1.1 s y e, ?_⟩
  intro r a1 hp
  refine ⟨_, X7_books b (th b) rfl hM (by rw [h7.2.1]; exact h7.1.1) s y e, ?_⟩
  intro r2 b1 hq
  (try dsimp only at hp hq)
  rw [h2.1.1, h7.2.1] at hq
  by_cases c1 : (0 ≤ s ∧ s < a 13 0) ∧ (0 ≤ y ∧ y ≤ 60) ∧ (0 ≤ e ∧ e ≤ 3)
  · rw [if_neg (fun w => w c1)] at hp hq
    by_cases c2 : a 71 0 = 6
    · rw [if_pos c2] at hp hq
      obtain ⟨rfl, rfl⟩ := hp
      obtain ⟨rfl, rfl⟩ := hq
      exact ⟨_, rfl, rfl, h⟩
    · rw [if_neg c2] at hp hq
      obtain ⟨rfl, rfl⟩ := hp
      obtain ⟨rfl, rfl⟩ := hq
      have g0 := h7.1.1
      refine ⟨_, rfl, rfl, Sim_x7 h ⟨⟨by rw [up_self]; omega, fun i p q => ?_⟩, by rw [up_self, up_self], fun i p q => ?_⟩ (fun c hc => by rw [up_cell _ _ _ (by omega), up_cell _ _ _ (by omega), up_cell _ _ _ (by omega), up_cell _ _ _ (by omega)]) (fun j hj => by rw [up_ne _ (fun w => hj w.2), up_cell _ _ _ (by decide), up_cell _ _ _ (by decide), up_cell _ _ _ (by decide)]) (fun c hc => by rw [up_cell _ _ _ (by omega), up_cell _ _ _ (by omega), up_cell _ _ _ (by omega), up_cell _ _ _ (by omega)])⟩
      · rw [up_self] at q
        by_cases hi : i = a 71 0
        · simp [up, hi]
          omega
        · have g := h7.1.2 i p (by omega)
          simp [up, hi]
          omega
      · rw [up_self] at q
        by_cases hi : i = a 71 0
        · simp [up, hi]
        · have g := h7.2.2 i p (by omega)
          simp [up, hi]
          exact g
  · rw [if_pos c1] at hp hq
    obtain ⟨rfl, rfl⟩ := hp
    obtain ⟨rfl, rfl⟩ := hq
    exact ⟨_, rfl, rfl, h⟩
theorem st_burn : St md_X6_burn md_X7_burn [] aI := by
  intro a b h0
  have h := Sim_th h0
  obtain ⟨h1, h2, h3, h4, h5, h6, h7, h8⟩ := id h
  have hM := br_MB h2 h3
  have hB := h3.1
  obtain ⟨⟨y0, y1⟩, ⟨y2, y3⟩, hla, hva⟩ := id h3.2.2
  refine ⟨_, X6_burn a, ?_⟩
  intro r a1 hp
  refine ⟨_, X7_burn b (th b) rfl, ?_⟩
  intro r2 b1 hq
  (try dsimp only at hp hq)
  rw [h7.2.1] at hq
  obtain ⟨rfl, rfl⟩ := hp
  obtain ⟨rfl, rfl⟩ := hq
  refine ⟨_, rfl, rfl, Sim_x7 h ⟨⟨by rw [up_self]; omega, fun i p q => ?_⟩, by rw [up_self, up_self], fun i p q => ?_⟩ (fun c hc => by rw [up_cell _ _ _ (by omega)]) (fun j hj => by rw [up_ne _ (fun w => hj w.2)]) (fun c hc => by rw [up_cell _ _ _ hc.1])⟩
  · rw [up_self] at q
    omega
  · rw [up_self] at q
    omega
theorem st_rate (w l : Int) : St md_X6_rate md_X7_rate [aI w, aI l] aI := by
  intro a b h0
  have h := Sim_th h0
  obtain ⟨h1, h2, h3, h4, h5, h6, h7, h8⟩ := id h
  have hM := br_MB h2 h3
  have hB := h3.1
  obtain ⟨⟨y0, y1⟩, ⟨y2, y3⟩, hla, hva⟩ := id h3.2.2
  refine ⟨_, X6_rate a hB w l, ?_⟩
  intro r a1 hp
  refine ⟨_, X7_rate b (th b) rfl hM w l, ?_⟩
  intro r2 b1 hq
  (try dsimp only at hp hq)
  rw [h2.1.2.1] at hq
  by_cases c1 : ¬ (0 ≤ l ∧ l < a 13 1) ∨ ¬ (0 ≤ w ∧ w ≤ 5)
  · rw [if_pos c1] at hp hq
    obtain ⟨rfl, rfl⟩ := hp
    obtain ⟨rfl, rfl⟩ := hq
    exact ⟨_, rfl, rfl, h⟩
  · rw [if_neg c1] at hp hq
    have hl : 0 ≤ l ∧ l < a 13 1 := by omega
    rw [br_S h2 h3 hl, br_C h2 h3 1 hl, br_C h2 h3 2 hl, h2.1.2.2.2] at hq
    obtain ⟨rfl, rfl⟩ := hp
    obtain ⟨rfl, rfl⟩ := hq
    refine ⟨_, rfl, rfl, Sim_x8 h ?_ (fun c hc => up_cell _ _ _ hc) (fun j _ => by rw [up_cell _ _ _ (by decide)]) (fun c hc => up_cell _ _ _ hc)⟩
    unfold S8
    rw [up_self, up_self, h8]

/-! what each part of Sim rests on -/
section CG
variable {a b a1 b1 : Mem}
theorem Mo_c {c c1 : Nat} {g g1 : Int → Int} (h : Mo a c g) (hB : a 13 0 ≤ 4 ∧ a 13 1 ≤ 4) (e13 : a1 13 = a 13) (e14 : a1 14 = a 14) (ec0 : a1 c1 0 = a c 0) (ec1 : a1 c1 1 = a c 1) (e1 : ∀ j : Int, 0 ≤ j → j < 16 → a1 (c1 + 1) j = a (c + 1) j) (e2 : ∀ j : Int, 0 ≤ j → j < 4 → a1 (c1 + 2) j = a (c + 2) j) (e3 : ∀ j : Int, 0 ≤ j → j < 4 → a1 (c1 + 3) j = a (c + 3) j) (hg : ∀ j : Int, 0 ≤ j → j < 26 → g1 j = g j) : Mo a1 c1 g1 := by
  obtain ⟨⟨m0, m1⟩, m2, m3, m4⟩ := h
  unfold Mo
  rw [e13, e14, ec0, ec1, hg 24 (by decide) (by decide), hg 25 (by decide) (by decide)]
  refine ⟨⟨m0, m1⟩, m2, fun s p q => ?_, fun l s p q u v => ?_⟩
  · rw [hg _ (by omega) (by omega), hg _ (by omega) (by omega), e2 s p (by omega), e3 s p (by omega)]
    exact m3 s p q
  · rw [hg _ (by omega) (by omega), e1 _ (by omega) (by omega)]
    exact m4 l s p q u v
theorem S1_c (h : S1 a b) (e1 : a1 1 0 = a 1 0) (e10 : a1 10 = a 10) (e6 : a1 6 = a 6) (f0 : b1 0 3 = b 0 3) (f1 : b1 1 = b 1) : S1 a1 b1 := by
  unfold S1 XTx
  rw [e1, e10, e6, f0, f1]
  exact h
theorem S2_c (h : S2 a b) (hB : XB a) (e13 : a1 13 = a 13) (e14 : a1 14 = a 14) (e15 : a1 15 = a 15) (e16 : a1 16 = a 16) (f0 : ∀ j : Int, 14 ≤ j → j ≤ 17 → b1 0 j = b 0 j) (f2 : ∀ j : Int, 0 ≤ j → j < 4 → b1 2 j = b 2 j) (f5 : ∀ j : Int, 0 ≤ j → j < 16 → b1 5 j = b 5 j) (f6 : ∀ j : Int, 0 ≤ j → j < 8 → b1 6 j = b 6 j) : S2 a1 b1 := by
  have x1 := hB.1
  have x2 := hB.2.1
  have x3 := hB.2.2.1
  unfold S2
  rw [e13, e14, e15, e16, f0 14 (by decide) (by decide), f0 15 (by decide) (by decide), f0 16 (by decide) (by decide), f0 17 (by decide) (by decide)]
  refine ⟨h.1, fun s p q => ?_, fun l s p q u v => ?_, fun p u v => ?_⟩
  · rw [f2 s p (by omega)]; exact h.2.1 s p q
  · rw [f5 _ (by omega) (by omega)]; exact h.2.2.1 l s p q u v
  · rw [f6 p u (by omega)]; exact h.2.2.2 p u v
theorem S3_c (h : S3 a b) (e13 : a1 13 = a 13) (e14 : a1 14 = a 14) (e15 : a1 15 = a 15) (e16 : a1 16 = a 16) (e17 : a1 17 = a 17) (e18 : a1 18 = a 18) (e19 : a1 19 = a 19) (e20 : a1 20 = a 20) (f7 : b1 7 = b 7) : S3 a1 b1 := by
  refine ⟨XB_of h.1 e13 e14 e15 e18, ?_, Mo_c h.2.2 ⟨h.1.1.2, h.1.2.1.2⟩ e13 e14 (by rw [e17]) (by rw [e17]) (fun j _ _ => by rw [e18]) (fun j _ _ => by rw [e19]) (fun j _ _ => by rw [e20]) (fun j _ _ => by rw [f7])⟩
  unfold XPl
  rw [e13, e16]
  exact h.2.1
theorem rgC_b (a : Mem) (i : Int) : 23 ≤ rgC a i ∧ rgC a i ≤ 59 := by
  unfold rgC
  omega
theorem S4_c (h : S4 a b) (hB : XB a) (e13 : a1 13 = a 13) (e14 : a1 14 = a 14) (e21 : a1 21 = a 21) (er : ∀ c : Nat, 23 ≤ c → c < 63 → a1 c = a c) (f0 : b1 0 27 = b 0 27) (f11 : b1 11 = b 11) : S4 a1 b1 := by
  refine ⟨by unfold XP; rw [e21]; exact h.1, by rw [e21, f0]; exact h.2.1, fun i p q => ?_⟩
  rw [e21] at q
  have er2 : rgC a1 i = rgC a i := by unfold rgC; rw [e21]
  have hb := rgC_b a i
  rw [er2]
  exact Mo_c (h.2.2 i p q) ⟨hB.1.2, hB.2.1.2⟩ e13 e14 (by rw [er _ (by omega) (by omega)]) (by rw [er _ (by omega) (by omega)]) (fun j _ _ => by rw [er _ (by omega) (by omega)]) (fun j _ _ => by rw [er _ (by omega) (by omega)]) (fun j _ _ => by rw [er _ (by omega) (by omega)]) (fun j _ _ => by rw [f11])
theorem S5_c (h : S5 a b) (hB : XB a) (e13 : a1 13 = a 13) (e14 : a1 14 = a 14) (e64 : a1 64 = a 64) (er : ∀ c : Nat, 77 ≤ c → c < 85 → a1 c = a c) (f9 : b1 9 = b 9) (f10 : b1 10 = b 10) : S5 a1 b1 := by
  intro i hi
  obtain ⟨h1, h2⟩ := h i hi
  rw [e64, f10]
  refine ⟨h1, fun hk => Mo_c (h2 hk) ⟨hB.1.2, hB.2.1.2⟩ e13 e14 (by rw [er _ (by omega) (by omega)]) (by rw [er _ (by omega) (by omega)]) (fun j _ _ => by rw [er _ (by omega) (by omega)]) (fun j _ _ => by rw [er _ (by omega) (by omega)]) (fun j _ _ => by rw [er _ (by omega) (by omega)]) (fun j _ _ => by rw [f9])⟩
theorem S6_c (h : S6 a b) (e13 : a1 13 0 = a 13 0) (e65 : a1 65 0 = a 65 0) (e66 : a1 66 = a 66) (e67 : a1 67 = a 67) (f0 : b1 0 30 = b 0 30) (f12 : b1 12 = b 12) (f13 : b1 13 = b 13) : S6 a1 b1 := by
  unfold S6 XPn
  rw [e13, e65, e66, e67, f0, f12, f13]
  exact h
theorem S7_c (h : S7 a b) (e71 : a1 71 0 = a 71 0) (e72 : a1 72 = a 72) (e73 : a1 73 = a 73) (e74 : a1 74 = a 74) (f0 : b1 0 34 = b 0 34) (f14 : b1 14 = b 14) (f15 : b1 15 = b 15) (f16 : b1 16 = b 16) : S7 a1 b1 := by
  unfold S7 XBk
  rw [e71, e72, e73, e74, f0, f14, f15, f16]
  exact h
theorem S8_c (h : S8 a b) (e : a1 1000 10 = a 1000 10) (f : b1 1000 1 = b 1000 1) : S8 a1 b1 := by
  unfold S8
  rw [e, f]
  exact h
/-- a call that changes no state -/
theorem Sim_F (h : Sim a b) (ha : ∀ c : Nat, (c < 68 ∨ (70 < c ∧ c ≠ 75 ∧ c ≠ 76)) → a1 c = a c) (hb0 : ∀ j : Int, 3 ≤ j → b1 0 j = b 0 j) (hb : ∀ c : Nat, c ≠ 0 → c ≠ 8 → (c < 17 ∨ 20 < c) → b1 c = b c) : Sim a1 b1 := by
  obtain ⟨h1, h2, h3, h4, h5, h6, h7, h8⟩ := h
  have A : ∀ c : Nat, (c < 68 ∨ (70 < c ∧ c ≠ 75 ∧ c ≠ 76)) → a1 c = a c := ha
  have B := hb
  refine ⟨S1_c h1 (by rw [A 1 (by omega)]) (A 10 (by omega)) (A 6 (by omega)) (hb0 3 (by omega)) (B 1 (by omega) (by omega) (by omega)), S2_c h2 h3.1 (A 13 (by omega)) (A 14 (by omega)) (A 15 (by omega)) (A 16 (by omega)) (fun j p _ => hb0 j (by omega)) (fun j _ _ => by rw [B 2 (by omega) (by omega) (by omega)]) (fun j _ _ => by rw [B 5 (by omega) (by omega) (by omega)]) (fun j _ _ => by rw [B 6 (by omega) (by omega) (by omega)]),
    S3_c h3 (A 13 (by omega)) (A 14 (by omega)) (A 15 (by omega)) (A 16 (by omega)) (A 17 (by omega)) (A 18 (by omega)) (A 19 (by omega)) (A 20 (by omega)) (B 7 (by omega) (by omega) (by omega)),
    S4_c h4 h3.1 (A 13 (by omega)) (A 14 (by omega)) (A 21 (by omega)) (fun c p q => A c (by omega)) (hb0 27 (by omega)) (B 11 (by omega) (by omega) (by omega)),
    S5_c h5 h3.1 (A 13 (by omega)) (A 14 (by omega)) (A 64 (by omega)) (fun c p q => A c (by omega)) (B 9 (by omega) (by omega) (by omega)) (B 10 (by omega) (by omega) (by omega)),
    S6_c h6 (by rw [A 13 (by omega)]) (by rw [A 65 (by omega)]) (A 66 (by omega)) (A 67 (by omega)) (hb0 30 (by omega)) (B 12 (by omega) (by omega) (by omega)) (B 13 (by omega) (by omega) (by omega)),
    S7_c h7 (by rw [A 71 (by omega)]) (A 72 (by omega)) (A 73 (by omega)) (A 74 (by omega)) (hb0 34 (by omega)) (B 14 (by omega) (by omega) (by omega)) (B 15 (by omega) (by omega) (by omega)) (B 16 (by omega) (by omega) (by omega)),
    S8_c h8 (by rw [A 1000 (by omega)]) (by rw [B 1000 (by omega) (by omega) (by omega)])⟩
theorem Sim_th (h : Sim a b) : Sim a (th b) := Sim_F h (fun _ _ => rfl) (fun j hj => up_ne _ (fun w => by omega)) (fun c hc _ _ => up_cell _ _ _ hc)
theorem Sim_8 (h : Sim a b) (hb : ∀ c : Nat, c ≠ 8 → b1 c = b c) : Sim a b1 := Sim_F h (fun _ _ => rfl) (fun j _ => by rw [hb 0 (by decide)]) (fun c _ h8 _ => hb c h8)
end CG
/-- a call on both: the same answer, and side by side again -/
def St (dx dm : Md) (as : List AV) (k : Int → AV) : Prop := ∀ a b : Mem, Sim a b → ∃ Px : Option AV → Mem → Prop, CT TX dx (aR 0 :: as) a Px ∧ ∀ r a1, Px r a1 → ∃ Pm : Option AV → Mem → Prop, CT TM dm (aR 0 :: as) b Pm ∧ ∀ r2 b1, Pm r2 b1 → ∃ v : Int, r = some (k v) ∧ r2 = some (k v) ∧ Sim a1 b1
theorem ite_same {P : Prop} [Decidable P] {x y z : Int} (h : P → x = y) : (if P then x else z) = if P then y else z := by
  split
  · rename_i hp; exact h hp
  · rfl
theorem th_0 (b : Mem) {j : Int} (h : j ≠ 0) : th b 0 j = b 0 j := up_ne _ (fun w => h w.2)

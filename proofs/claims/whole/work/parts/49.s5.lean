section MB5
variable {a b a1 b1 α : Mem}
theorem bec_0 (a : Mem) {p q : Nat} (h : p + 4 ≤ q ∨ q + 4 ≤ p) : bec a p q q 0 = a p 0 := by
  unfold bec
  rw [cpy_ne _ _ (by omega), cpy_ne _ _ (by omega), cpy_ne _ _ (by omega), up_ne _ (by omega), up_self]
theorem bec_1 (a : Mem) {p q : Nat} (h : p + 4 ≤ q ∨ q + 4 ≤ p) : bec a p q q 1 = a p 1 := by
  unfold bec
  (try dsimp only)
  rw [cpy_ne _ _ (by omega), cpy_ne _ _ (by omega), cpy_ne _ _ (by omega), up_self, up_cell _ _ _ (by omega)]
theorem cpy_in (μ : Mem) {p q : Nat} {n j : Int} (h : 0 ≤ j ∧ j < n) : cpy μ p q n q j = μ p j := by
  unfold cpy
  rw [if_pos ⟨rfl, h⟩]
theorem bec_v (a : Mem) {p q : Nat} (h : p + 4 ≤ q ∨ q + 4 ≤ p) {j : Int} (hj : 0 ≤ j ∧ j < 16) : bec a p q (q + 1) j = a (p + 1) j := by
  unfold bec
  (try dsimp only)
  rw [cpy_ne _ _ (by omega), cpy_ne _ _ (by omega), cpy_in _ hj, up_cell _ _ _ (by omega), up_cell _ _ _ (by omega)]
theorem bec_l (a : Mem) {p q : Nat} (h : p + 4 ≤ q ∨ q + 4 ≤ p) {j : Int} (hj : 0 ≤ j ∧ j < 4) : bec a p q (q + 2) j = a (p + 2) j := by
  unfold bec
  (try dsimp only)
  rw [cpy_ne _ _ (by omega), cpy_in _ hj, cpy_ne _ _ (by omega), up_cell _ _ _ (by omega), up_cell _ _ _ (by omega)]
theorem bec_m (a : Mem) {p q : Nat} (h : p + 4 ≤ q ∨ q + 4 ≤ p) {j : Int} (hj : 0 ≤ j ∧ j < 4) : bec a p q (q + 3) j = a (p + 3) j := by
  unfold bec
  (try dsimp only)
  rw [cpy_in _ hj, cpy_ne _ _ (by omega), cpy_ne _ _ (by omega), up_cell _ _ _ (by omega), up_cell _ _ _ (by omega)]
theorem Mo_bec {p q : Nat} {g : Int → Int} (h : Mo a p g) (hB : a 13 0 ≤ 4 ∧ a 13 1 ≤ 4) (hd : p + 4 ≤ q ∨ q + 4 ≤ p) (hq : q + 3 < 13 ∨ 14 < q) : Mo (bec a p q) q g := Mo_c h hB (bec_cell _ _ _ _ (by omega)) (bec_cell _ _ _ _ (by omega)) (bec_0 a hd) (bec_1 a hd) (fun j u v => bec_v a hd ⟨u, v⟩) (fun j u v => bec_l a hd ⟨u, v⟩) (fun j u v => bec_m a hd ⟨u, v⟩) (fun _ _ _ => rfl)
theorem Mo_same {c : Nat} {g g1 : Int → Int} (h : Mo a c g) (hB : a 13 0 ≤ 4 ∧ a 13 1 ≤ 4) (e13 : a1 13 = a 13) (e14 : a1 14 = a 14) (e0 : a1 c = a c) (e1 : a1 (c + 1) = a (c + 1)) (e2 : a1 (c + 2) = a (c + 2)) (e3 : a1 (c + 3) = a (c + 3)) (hg : ∀ j : Int, 0 ≤ j → j < 26 → g1 j = g j) : Mo a1 c g1 := Mo_c h hB e13 e14 (by rw [e0]) (by rw [e0]) (fun j _ _ => by rw [e1]) (fun j _ _ => by rw [e2]) (fun j _ _ => by rw [e3]) hg
theorem XB_Mo {g : Int → Int} (hB : XB a) (e13 : a1 13 = a 13) (e14 : a1 14 = a 14) (e15 : a1 15 = a 15) (hm : Mo a1 17 g) : XB a1 := by
  have hv := hm.2.2.2
  obtain ⟨x1, x2, x3, x4, x5, x6⟩ := hB
  unfold XB
  rw [e13, e14] at hv
  rw [e13, e14, e15]
  refine ⟨x1, x2, x3, x4, x5, fun l s p q u v => ?_⟩
  have g1 := x6 l s p q u v
  have g2 := hv l s p q u v
  exact ⟨g1.1, g1.2.1, g2.2⟩
theorem rem_0 (a : Mem) : rem a 21 0 = min 10 (a 21 0 + 1) := by
  unfold rem
  (try dsimp only)
  rw [up_self, up_ne _ (by decide), bec_cell _ _ _ _ (by omega)]
theorem rem_1 (a : Mem) : rem a 21 1 = (a 21 1 + 1) % 10 := by
  unfold rem
  (try dsimp only)
  rw [up_ne _ (by decide), up_self, bec_cell _ _ _ _ (by omega)]
theorem rem_r (a : Mem) {c : Nat} (hc : c ≠ 21) : rem a c = bec a 17 (23 + 4 * (a 21 1).toNat) c := by
  unfold rem
  (try dsimp only)
  rw [up_cell _ _ _ hc, up_cell _ _ _ hc]
theorem Sim_push (h : Sim a b) (hN : MN b α) : Sim (rem a) α := by
  obtain ⟨h1, h2, h3, h4, h5, h6, h7, h8⟩ := id h
  obtain ⟨n1, n2, n3, n4, n5⟩ := hN
  obtain ⟨⟨p0, p1, p2, p3⟩, e27, hr⟩ := h4
  have hp : XP a := ⟨p0, p1, p2, p3⟩
  have hB := h3.1
  have hBc : a 13 0 ≤ 4 ∧ a 13 1 ≤ 4 := ⟨hB.1.2, hB.2.1.2⟩
  have hc := fun (c : Nat) (hc : c < 21 ∨ 63 ≤ c) => rem_cell a c hc hp
  refine Sim_x4 h ⟨?_, ?_, fun i u v => ?_⟩ (fun c hc' => hc c (by omega)) (fun j hj => n2 j hj) (fun c hc' => n1 c hc'.1 hc'.2)
  · unfold XP
    rw [rem_0, rem_1]
    omega
  · rw [n3, rem_0, e27]
    split <;> omega
  · rw [rem_0] at v
    have e13 := hc 13 (by omega)
    have e14 := hc 14 (by omega)
    by_cases hi : i = min 10 (a 21 0 + 1) - 1
    · have er : rgC (rem a) i = 23 + 4 * (a 21 1).toNat := by
        unfold rgC
        rw [rem_0, rem_1]
        omega
      rw [er]
      have hm := Mo_bec (q := 23 + 4 * (a 21 1).toNat) h3.2.2 hBc (by omega) (by omega)
      refine Mo_same (a := bec a 17 (23 + 4 * (a 21 1).toNat)) (g := b 7) hm (by rw [bec_cell _ _ _ _ (by omega)]; exact hBc) (rem_r a (by omega)) (rem_r a (by omega)) (rem_r a (by omega)) (rem_r a (by omega)) (rem_r a (by omega)) (rem_r a (by omega)) (fun j q w => ?_)
      have := n5 j q w
      rw [n3, e27] at this
      rw [← this]
      congr 2
      split <;> omega
    · have er : rgC (rem a) i = rgC a (if a 21 0 = 10 then i + 1 else i) := by
        unfold rgC
        rw [rem_0, rem_1]
        split <;> omega
      have hne : rgC (rem a) i ≠ 23 + 4 * (a 21 1).toNat := by
        unfold rgC
        rw [rem_0, rem_1]
        omega
      have hm := hr (if a 21 0 = 10 then i + 1 else i) (by split <;> omega) (by split <;> omega)
      rw [← er] at hm
      have hbd := rgC_b (rem a) i
      have h4 : ∃ k : Nat, rgC (rem a) i = 23 + 4 * k := ⟨_, rfl⟩
      obtain ⟨k, hk⟩ := h4
      refine Mo_same hm hBc e13 e14 ?_ ?_ ?_ ?_ (fun j q w => ?_)
      · rw [rem_r a (by omega), bec_cell _ _ _ _ (by omega)]
      · rw [rem_r a (by omega), bec_cell _ _ _ _ (by omega)]
      · rw [rem_r a (by omega), bec_cell _ _ _ _ (by omega)]
      · rw [rem_r a (by omega), bec_cell _ _ _ _ (by omega)]
      · show α 11 (26 * i + j) = _
        rw [n4 (26 * i + j) (by omega) (by rw [n3, e27]; split <;> omega), e27]
        show _ = b 11 (26 * (if a 21 0 = 10 then i + 1 else i) + j)
        congr 1
        split <;> omega
theorem gvb_0 (a : Mem) : gvb a 21 0 = a 21 0 - 1 := by
  unfold gvb
  (try dsimp only)
  rw [bec_cell _ _ _ _ (by omega), up_self, up_ne _ (by decide)]
theorem gvb_1 (a : Mem) : gvb a 21 1 = (a 21 1 + 10 - 1) % 10 := by
  unfold gvb
  (try dsimp only)
  rw [bec_cell _ _ _ _ (by omega), up_ne _ (by decide), up_self]
theorem gvb_c (a : Mem) {c : Nat} (hc : c ≠ 21 ∧ (c < 17 ∨ 20 < c)) : gvb a c = a c := by
  unfold gvb
  (try dsimp only)
  rw [bec_cell _ _ _ _ (by omega), up_cell _ _ _ hc.1, up_cell _ _ _ hc.1]
theorem gvb_m (a : Mem) : gvb a = bec (up (up a 21 1 ((a 21 1 + 10 - 1) % 10)) 21 0 (a 21 0 - 1)) (23 + 4 * ((a 21 1 + 10 - 1) % 10).toNat) 17 := by
  unfold gvb
  (try dsimp only)
  rw [up_ne (up a 21 1 _) (j' := 1) (by decide), up_self, up_ne a (j' := 0) (by decide)]
theorem xJc_bd (hB : XB a) (y : Int) : 0 ≤ xJc a y ∧ xJc a y ≤ 16 := by
  have x1 := hB.1
  have x2 := hB.2.1
  have hin : ∀ l : Int, 0 ≤ smf (fun s => if xE a y l s = xE a (y + 1) l s then (0 : Int) else 1) 0 (a 13 0).toNat ∧ smf (fun s => if xE a y l s = xE a (y + 1) l s then (0 : Int) else 1) 0 (a 13 0).toNat ≤ 4 := fun l => by
    have := smf_bound (f := fun s => if xE a y l s = xE a (y + 1) l s then (0 : Int) else 1) (a := 0) (b := 1) (a 13 0).toNat 0 (fun i _ _ => by (try dsimp only); split <;> omega)
    omega
  unfold xJc
  have := smf_bound (f := fun l => smf (fun s => if xE a y l s = xE a (y + 1) l s then (0 : Int) else 1) 0 (a 13 0).toNat) (a := 0) (b := 4) (a 13 1).toNat 0 (fun i _ _ => hin i)
  omega
theorem br_Jc (h2 : S2 a b) (h3 : S3 a b) (y : Int) : mJc b 7 y = xJc a y := by
  unfold mJc xJc
  rw [h2.1.1, h2.1.2.1]
  refine smf_congr _ _ (fun l p q => smf_congr _ _ (fun s u v => ?_))
  rw [br_En h2 h3 (s := s) ⟨u, by omega⟩, br_V h2 h3 (y + 1) ⟨p, by omega⟩ ⟨u, by omega⟩, br_V h2 h3 y ⟨p, by omega⟩ ⟨u, by omega⟩]
  exact ite_c2 ⟨fun w => w.symm, fun w => w.symm⟩ rfl
end MB5
theorem st_keep (i : Int) : St md_X6_keep md_X7_keep [aI i] aI := by
  intro a b h0
  have h := Sim_th h0
  obtain ⟨h1, h2, h3, h4, h5, h6, h7, h8⟩ := id h
  have hM := br_MB h2 h3
  have hB := h3.1
  obtain ⟨⟨y0, y1⟩, ⟨y2, y3⟩, hla, hva⟩ := id h3.2.2
  refine ⟨_, X6_keep a i, ?_⟩
  intro r a1 hp
  refine ⟨_, X7_keep b (th b) rfl i, ?_⟩
  intro r2 b1 hq
  (try dsimp only at hp hq)
  by_cases c1 : 0 ≤ i ∧ i ≤ 1
  · rw [if_neg (fun w => w c1)] at hp hq
    obtain ⟨rfl, rfl⟩ := hp
    obtain ⟨rfl, q1, q2, q3⟩ := hq
    have hBc : a 13 0 ≤ 4 ∧ a 13 1 ≤ 4 := ⟨hB.1.2, hB.2.1.2⟩
    refine ⟨_, rfl, by rw [y0], Sim_x5 h (fun k hk => ?_) (fun c hc => by rw [up_cell _ _ _ hc.1, bec_cell _ _ _ _ (by omega)]) (fun j _ => by rw [q1 0 (by decide) (by decide)]) (fun c hc => q1 c hc.1 hc.2)⟩
    obtain ⟨g1, g2⟩ := h5 k hk
    have e13 : up (bec a 17 (77 + 4 * i.toNat)) 64 i 1 13 = a 13 := by rw [up_cell _ _ _ (by decide), bec_cell _ _ _ _ (by omega)]
    have e14 : up (bec a 17 (77 + 4 * i.toNat)) 64 i 1 14 = a 14 := by rw [up_cell _ _ _ (by decide), bec_cell _ _ _ _ (by omega)]
    by_cases hki : k = i
    · subst hki
      refine ⟨by rw [q3, if_pos rfl, up_self], fun _ => ?_⟩
      have hm := Mo_bec (q := 77 + 4 * k.toNat) h3.2.2 hBc (by omega) (by omega)
      refine Mo_same (a := bec a 17 (77 + 4 * k.toNat)) (g := th b 7) hm (by rw [bec_cell _ _ _ _ (by omega)]; exact hBc) (up_cell _ _ _ (by omega)) (up_cell _ _ _ (by omega)) (up_cell _ _ _ (by omega)) (up_cell _ _ _ (by omega)) (up_cell _ _ _ (by omega)) (up_cell _ _ _ (by omega)) (fun j u v => ?_)
      show b1 9 (26 * k + j) = _
      rw [q2, if_pos (by omega)]
      congr 1
      omega
    · have e64 : up (bec a 17 (77 + 4 * i.toNat)) 64 i 1 64 k = a 64 k := by rw [up_ne _ (fun w => hki w.2), bec_cell _ _ _ _ (by omega)]
      refine ⟨by rw [q3, if_neg hki, e64]; exact g1, fun hk2 => ?_⟩
      rw [e64] at hk2
      have hcell : ∀ c : Nat, 77 + 4 * k.toNat ≤ c → c < 77 + 4 * k.toNat + 4 → up (bec a 17 (77 + 4 * i.toNat)) 64 i 1 c = a c := fun c u v => by rw [up_cell _ _ _ (by omega), bec_cell _ _ _ _ (by omega)]
      refine Mo_same (g := fun j => th b 9 (26 * k + j)) (g2 hk2) hBc e13 e14 (hcell _ (by omega) (by omega)) (hcell _ (by omega) (by omega)) (hcell _ (by omega) (by omega)) (hcell _ (by omega) (by omega)) (fun j u v => ?_)
      show b1 9 (26 * k + j) = _
      rw [q2, if_neg (by omega)]
  · rw [if_pos c1] at hp hq
    obtain ⟨rfl, rfl⟩ := hp
    obtain ⟨rfl, rfl⟩ := hq
    exact ⟨_, rfl, rfl, h⟩
theorem st_back (i : Int) : St md_X6_back md_X7_back [aI i] aI := by
  intro a b h0
  have h := Sim_th h0
  obtain ⟨h1, h2, h3, h4, h5, h6, h7, h8⟩ := id h
  have hM := br_MB h2 h3
  have hB := h3.1
  obtain ⟨⟨y0, y1⟩, ⟨y2, y3⟩, hla, hva⟩ := id h3.2.2
  refine ⟨_, X6_back a i, ?_⟩
  intro r a1 hp
  refine ⟨_, X7_back b (th b) rfl i, ?_⟩
  intro r2 b1 hq
  (try dsimp only at hp hq)
  by_cases c1 : 0 ≤ i ∧ i ≤ 1
  · rw [if_neg (fun w => w c1)] at hp hq
    obtain ⟨g1, g2⟩ := h5 i (by omega)
    rw [g1] at hq
    by_cases c2 : a 64 i = 0
    · rw [if_pos c2] at hp hq
      obtain ⟨rfl, rfl⟩ := hp
      obtain ⟨rfl, rfl⟩ := hq
      exact ⟨_, rfl, rfl, h⟩
    · rw [if_neg c2] at hp hq
      obtain ⟨rfl, rfl⟩ := hp
      obtain ⟨rfl, q1, q2⟩ := hq
      have hBc : a 13 0 ≤ 4 ∧ a 13 1 ≤ 4 := ⟨hB.1.2, hB.2.1.2⟩
      have hm0 := g2 c2
      have hm := Mo_bec (q := 17) hm0 hBc (by omega) (by omega)
      have hc : ∀ c : Nat, c ≠ 21 → (c < 17 ∨ 20 < c) → up (bec a (77 + 4 * i.toNat) 17) 21 0 0 c = a c := fun c u v => by rw [up_cell _ _ _ u, bec_cell _ _ _ _ (by omega)]
      have hm2 : Mo (up (bec a (77 + 4 * i.toNat) 17) 21 0 0) 17 (b1 7) := Mo_same hm (by rw [bec_cell _ _ _ _ (by omega)]; exact hBc) (up_cell _ _ _ (by decide)) (up_cell _ _ _ (by decide)) (up_cell _ _ _ (by decide)) (up_cell _ _ _ (by decide)) (up_cell _ _ _ (by decide)) (up_cell _ _ _ (by decide)) (fun j u v => q2 j u v)
      refine ⟨_, rfl, ?_, Sim_x34 h ⟨XB_Mo hB (hc 13 (by decide) (by omega)) (hc 14 (by decide) (by omega)) (hc 15 (by decide) (by omega)) hm2, ?_, hm2⟩ ⟨?_, ?_, fun k u v => ?_⟩ (fun c hc' => hc c (by omega) (by omega)) (fun j hj => by rw [q1 0 (by decide), up_ne _ (fun w => hj w.2)]) (fun c hc' => by rw [q1 c (by omega), up_cell _ _ _ (by omega)])⟩
      · rw [bec_0 a (by omega)]
        have := hm0.1.1
        rw [← this]
      · unfold XPl
        rw [hc 13 (by decide) (by omega), hc 16 (by decide) (by omega)]
        exact h3.2.1
      · unfold XP
        rw [up_self, up_ne _ (by decide), bec_cell _ _ _ _ (by omega)]
        have := h4.1
        unfold XP at this
        omega
      · rw [q1 0 (by decide), up_self, up_self]
      · rw [up_self] at v
        omega
  · rw [if_pos c1] at hp hq
    obtain ⟨rfl, rfl⟩ := hp
    obtain ⟨rfl, rfl⟩ := hq
    exact ⟨_, rfl, rfl, h⟩
theorem st_undo : St md_X6_undo md_X7_undo [] aI := by
  intro a b h0
  have h := Sim_th h0
  obtain ⟨h1, h2, h3, h4, h5, h6, h7, h8⟩ := id h
  have hM := br_MB h2 h3
  have hB := h3.1
  obtain ⟨⟨y0, y1⟩, ⟨y2, y3⟩, hla, hva⟩ := id h3.2.2
  refine ⟨_, X6_undo a h4.1, ?_⟩
  intro r a1 hp
  refine ⟨_, X7_undo b (th b) rfl (by rw [h4.2.1]; exact ⟨h4.1.1, h4.1.2.1⟩), ?_⟩
  intro r2 b1 hq
  (try dsimp only at hp hq)
  rw [h4.2.1] at hq
  by_cases c2 : a 21 0 = 0
  · rw [if_pos c2] at hp hq
    obtain ⟨rfl, rfl⟩ := hp
    obtain ⟨rfl, rfl⟩ := hq
    exact ⟨_, rfl, rfl, h⟩
  · rw [if_neg c2] at hp hq
    obtain ⟨rfl, rfl⟩ := hp
    obtain ⟨rfl, q1, q2⟩ := hq
    obtain ⟨⟨p0, p1, p2, p3⟩, e27, hr⟩ := h4
    have hBc : a 13 0 ≤ 4 ∧ a 13 1 ≤ 4 := ⟨hB.1.2, hB.2.1.2⟩
    have hm0 := hr (a 21 0 - 1) (by omega) (by omega)
    have er : rgC a (a 21 0 - 1) = 23 + 4 * ((a 21 1 + 10 - 1) % 10).toNat := by
      unfold rgC
      omega
    rw [er] at hm0
    have hup : ∀ c : Nat, c ≠ 21 → up (up a 21 1 ((a 21 1 + 10 - 1) % 10)) 21 0 (a 21 0 - 1) c = a c := fun c hc => by rw [up_cell _ _ _ hc, up_cell _ _ _ hc]
    have hm1 := Mo_same (a1 := up (up a 21 1 ((a 21 1 + 10 - 1) % 10)) 21 0 (a 21 0 - 1)) (g1 := b1 7) hm0 hBc (hup _ (by omega)) (hup _ (by omega)) (hup _ (by omega)) (hup _ (by omega)) (hup _ (by omega)) (hup _ (by omega)) (fun j u v => q2 j u v)
    have hm2 := Mo_bec (q := 17) hm1 (by rw [hup _ (by omega)]; exact hBc) (by omega) (by omega)
    rw [← gvb_m] at hm2
    have hc : ∀ c : Nat, c ≠ 21 → (c < 17 ∨ 20 < c) → gvb a c = a c := fun c u v => gvb_c a ⟨u, v⟩
    refine ⟨_, rfl, by rw [gvb_0], Sim_x34 h ⟨XB_Mo hB (hc 13 (by decide) (by omega)) (hc 14 (by decide) (by omega)) (hc 15 (by decide) (by omega)) hm2, ?_, hm2⟩ ⟨?_, ?_, fun k u v => ?_⟩ (fun c hc' => hc c (by omega) (by omega)) (fun j hj => by rw [q1 0 (by decide), up_ne _ (fun w => hj w.2)]) (fun c hc' => by rw [q1 c (by omega), up_cell _ _ _ (by omega)])⟩
    · unfold XPl
      rw [hc 13 (by decide) (by omega), hc 16 (by decide) (by omega)]
      exact h3.2.1
    · unfold XP
      rw [gvb_0, gvb_1]
      omega
    · rw [q1 0 (by decide), up_self, gvb_0]
    · rw [gvb_0] at v
      have er2 : rgC (gvb a) k = rgC a k := by
        unfold rgC
        rw [gvb_0, gvb_1]
        omega
      have hbd := rgC_b a k
      rw [er2]
      exact Mo_same (hr k u (by omega)) hBc (hc _ (by omega) (by omega)) (hc _ (by omega) (by omega)) (hc _ (by omega) (by omega)) (hc _ (by omega) (by omega)) (hc _ (by omega) (by omega)) (hc _ (by omega) (by omega)) (fun j _ _ => by rw [q1 11 (by decide), up_cell _ _ _ (by decide)])
theorem st_changes (l s k : Int) : St md_X6_changes md_X7_changes [aI l, aI s, aI k] aI := by
  intro a b h0
  have h := Sim_th h0
  obtain ⟨h1, h2, h3, h4, h5, h6, h7, h8⟩ := id h
  have hM := br_MB h2 h3
  have hB := h3.1
  obtain ⟨⟨y0, y1⟩, ⟨y2, y3⟩, hla, hva⟩ := id h3.2.2
  refine ⟨_, X6_changes a hB h4.1 l s k, ?_⟩
  intro r a1 hp
  refine ⟨_, X7_changes b (th b) rfl hM (by rw [h4.2.1]; exact ⟨h4.1.1, h4.1.2.1⟩) l s k, ?_⟩
  intro r2 b1 hq
  (try dsimp only at hp hq)
  rw [h2.1.1, h2.1.2.1] at hq
  by_cases c1 : (0 ≤ l ∧ l < a 13 1) ∧ (0 ≤ s ∧ s < a 13 0) ∧ (-9 ≤ k ∧ k ≤ 9)
  · rw [if_neg (fun w => w c1)] at hp hq
    rw [h2.2.1 s c1.2.1.1 c1.2.1.2, (hva l s c1.1.1 c1.1.2 c1.2.1.1 c1.2.1.2).1] at hq
    obtain ⟨rfl, rfl⟩ := hp
    obtain ⟨rfl, α, hN, rfl⟩ := hq
    have hs := Sim_push h hN
    obtain ⟨s1, s2, s3, s4, s5, s6, s7, s8⟩ := id hs
    have er := fun (c : Nat) (hc : c < 21 ∨ 63 ≤ c) => rem_cell a c hc h4.1
    have r5 := hB.2.2.2.2.1 s c1.2.1.1 c1.2.1.2
    obtain ⟨v, hv⟩ : ∃ v, v = cl (a 14 s) (a (17 + 1) (l * 4 + s) + k) := ⟨_, rfl⟩
    have hb := cl_bound (r := a 14 s) (x := a (17 + 1) (l * 4 + s) + k) (by omega)
    rw [← hv] at hb
    have hv2 : cl (a 14 s) (a 18 (l * 4 + s) + k) = v := hv.symm
    rw [hv2]
    have hm : Mo (up (rem a) 18 (l * 4 + s) v) 17 (up α 7 (8 + 4 * l + s) v 7) := by
      obtain ⟨⟨m0, m1⟩, m2, m3, m4⟩ := s3.2.2
      have z := s3.1
      unfold Mo
      rw [up_cell _ _ _ (show (13 : Nat) ≠ 18 by decide), up_cell _ _ _ (show (14 : Nat) ≠ 18 by decide), up_cell _ _ _ (show (17 : Nat) ≠ 18 by decide), up_cell _ _ _ (show (17 + 2 : Nat) ≠ 18 by decide), up_cell _ _ _ (show (17 + 3 : Nat) ≠ 18 by decide), up_ne _ (j' := 24) (fun w => by have := z.1; have := z.2.1; rw [er 13 (by omega)] at *; omega), up_ne _ (j' := 25) (fun w => by have := z.1; have := z.2.1; rw [er 13 (by omega)] at *; omega)]
      refine ⟨⟨m0, m1⟩, m2, fun s' u w => ?_, fun l' s' u1 w1 u w => ?_⟩
      · have := z.1
        rw [up_ne _ (fun q => by omega), up_ne _ (fun q => by omega)]
        exact m3 s' u w
      · have z1 := z.1
        by_cases hj : l' * 4 + s' = l * 4 + s
        · rw [show (8 : Int) + 4 * l' + s' = 8 + 4 * l + s by omega, up_self, hj]
          have hs' : s' = s := by rw [er 13 (by omega)] at *; omega
          rw [hs', show (17 + 1 : Nat) = 18 from rfl, up_self, er 14 (by omega)]
          exact ⟨rfl, hb⟩
        · rw [up_ne _ (fun q => by omega), up_ne _ (fun q => hj q.2)]
          exact m4 l' s' u1 w1 u w
    refine ⟨_, rfl, rfl, Sim_x3 hs ⟨XB_Mo s3.1 (up_cell _ _ _ (by decide)) (up_cell _ _ _ (by decide)) (up_cell _ _ _ (by decide)) hm, ?_, hm⟩ (fun c hc => up_cell _ _ _ (by omega)) (fun j _ => by rw [up_cell _ _ _ (by decide)]) (fun c hc => up_cell _ _ _ hc)⟩
    unfold XPl
    rw [up_cell _ _ _ (by decide), up_cell _ _ _ (by decide)]
    exact s3.2.1
  · rw [if_pos c1] at hp hq
    obtain ⟨rfl, rfl⟩ := hp
    obtain ⟨rfl, rfl⟩ := hq
    exact ⟨_, rfl, rfl, h⟩
theorem st_law (s w t : Int) : St md_X6_law md_X7_law [aI s, aI w, aI t] aI := by
  intro a b h0
  have h := Sim_th h0
  obtain ⟨h1, h2, h3, h4, h5, h6, h7, h8⟩ := id h
  have hM := br_MB h2 h3
  have hB := h3.1
  obtain ⟨⟨y0, y1⟩, ⟨y2, y3⟩, hla, hva⟩ := id h3.2.2
  refine ⟨_, X6_law a hB h4.1 s w t, ?_⟩
  intro r a1 hp
  refine ⟨_, X7_law b (th b) rfl hM (by rw [h4.2.1]; exact ⟨h4.1.1, h4.1.2.1⟩) s w t, ?_⟩
  intro r2 b1 hq
  (try dsimp only at hp hq)
  rw [h2.1.1] at hq
  by_cases c0 : 0 ≤ s ∧ s < a 13 0
  · rw [h2.2.1 s c0.1 c0.2] at hq
    by_cases c1 : (0 ≤ s ∧ s < a 13 0) ∧ (0 ≤ w ∧ w ≤ 3) ∧ (1 ≤ t ∧ t ≤ a 14 s)
    · rw [if_neg (fun w => w c1)] at hp hq
      obtain ⟨hr1, ha1⟩ := hp
      obtain ⟨hr2, α, hN, hb1⟩ := hq
      have hs := Sim_push h hN
      obtain ⟨s1, s2, s3, s4, s5, s6, s7, s8⟩ := id hs
      have er := fun (c : Nat) (hc : c < 21 ∨ 63 ≤ c) => rem_cell a c hc h4.1
      have z := s3.1
      have z1 := z.1
      have hc : ∀ c : Nat, c ≠ 19 → c ≠ 20 → a1 c = rem a c := fun c u v => by rw [ha1, up_cell _ _ _ v, up_cell _ _ _ u]
      have hm : Mo a1 17 (b1 7) := by
        obtain ⟨⟨m0, m1⟩, m2, m3, m4⟩ := s3.2.2
        unfold Mo
        rw [hc 13 (by decide) (by decide), hc 14 (by decide) (by decide), hc 17 (by decide) (by decide), hc (17 + 1) (by decide) (by decide)]
        have hs8 : s < 4 := by rw [er 13 (by omega)] at z1; omega
        have b7 : ∀ j : Int, 8 ≤ j → b1 7 j = α 7 j := fun j hj => by rw [hb1, up_ne _ (fun q => by omega), up_ne _ (fun q => by omega)]
        rw [b7 24 (by decide), b7 25 (by decide)]
        refine ⟨⟨m0, m1⟩, m2, fun s' u v => ?_, fun l' s' u1 w1 u v => ?_⟩
        · by_cases hj : s' = s
          · subst hj
            rw [hb1, ha1]
            constructor
            · rw [up_ne _ (fun q => by omega), up_self, up_cell _ _ _ (by decide), show (17 + 2 : Nat) = 19 from rfl, up_self]
            · rw [up_self, show (17 + 3 : Nat) = 20 from rfl, up_self]
          · have g := m3 s' u v
            rw [hb1, ha1]
            constructor
            · rw [up_ne _ (fun q => by omega), up_ne _ (fun q => by omega), up_cell _ _ _ (by decide), up_ne _ (fun q => hj q.2)]
              exact g.1
            · rw [up_ne _ (fun q => by omega), up_ne _ (fun q => by omega), up_ne _ (fun q => hj q.2), up_cell _ _ _ (by decide)]
              exact g.2
        · rw [b7 _ (by omega)]
          exact m4 l' s' u1 w1 u v
      have hS : Sim a1 b1 := by
        refine Sim_x3 hs ⟨XB_Mo s3.1 (hc 13 (by decide) (by decide)) (hc 14 (by decide) (by decide)) (hc 15 (by decide) (by decide)) hm, ?_, hm⟩ (fun c hc' => hc c (by omega) (by omega)) (fun j _ => by rw [hb1, up_cell _ _ _ (by decide), up_cell _ _ _ (by decide)]) (fun c hc' => by rw [hb1, up_cell _ _ _ hc', up_cell _ _ _ hc'])
        unfold XPl
        rw [hc 13 (by decide) (by decide), hc 16 (by decide) (by decide)]
        exact s3.2.1
      exact ⟨_, hr1, by rw [hr2, br_Bits hS.2.1 hS.2.2.1], hS⟩
    · rw [if_pos c1] at hp hq
      obtain ⟨rfl, rfl⟩ := hp
      obtain ⟨rfl, rfl⟩ := hq
      exact ⟨_, rfl, rfl, h⟩
  · rw [if_pos (fun z => c0 z.1)] at hp hq
    obtain ⟨rfl, rfl⟩ := hp
    obtain ⟨rfl, rfl⟩ := hq
    exact ⟨_, rfl, rfl, h⟩
theorem st_passes (n : Int) : St md_X6_passes md_X7_passes [aI n] aI := by
  intro a b h0
  have h := Sim_th h0
  obtain ⟨h1, h2, h3, h4, h5, h6, h7, h8⟩ := id h
  have hM := br_MB h2 h3
  have hB := h3.1
  obtain ⟨⟨y0, y1⟩, ⟨y2, y3⟩, hla, hva⟩ := id h3.2.2
  refine ⟨_, X6_passes a hB h4.1 y2 y3 n, ?_⟩
  intro r a1 hp
  refine ⟨_, X7_passes b (th b) rfl hM (by rw [h4.2.1]; exact ⟨h4.1.1, h4.1.2.1⟩) (by rw [y0]; exact y2) (by rw [y0, y1]; exact y3) n, ?_⟩
  intro r2 b1 hq
  (try dsimp only at hp hq)
  rw [y0] at hq
  by_cases c1 : 1 ≤ n ∧ n ≤ 30
  · rw [if_neg (fun w => w c1)] at hp hq
    by_cases c2 : 99 < a 17 0 + n
    · rw [if_pos c2] at hp hq
      obtain ⟨rfl, rfl⟩ := hp
      obtain ⟨rfl, rfl⟩ := hq
      exact ⟨_, rfl, rfl, h⟩
    · rw [if_neg c2] at hp hq
      obtain ⟨rfl, g1, g2, g3, g4⟩ := hp
      obtain ⟨rfl, α, hN, k1, k2, k3, k4, k5⟩ := hq
      have hs := Sim_push h hN
      obtain ⟨s1, s2, s3, s4, s5, s6, s7, s8⟩ := id hs
      have er := fun (c : Nat) (hc : c < 21 ∨ 63 ≤ c) => rem_cell a c hc h4.1
      have z := s3.1
      have z1 := z.1
      have z2 := z.2.1
      obtain ⟨⟨m0, m1⟩, ⟨m2, m22⟩, m3, m4⟩ := id s3.2.2
      have hJ : smf (fun y => mJc α 7 y) 0 n.toNat = smf (fun y => xJc (rem a) y) 0 n.toNat := smf_congr _ _ (fun y _ _ => br_Jc s2 s3 y)
      have hJb := smf_bound (f := fun y => xJc (rem a) y) (a := 0) (b := 16) n.toNat 0 (fun y _ _ => xJc_bd z y)
      have e17 := er 17 (by omega)
      have hm : Mo a1 17 (b1 7) := by
        unfold Mo
        rw [g1 13 (by decide) (by decide), g1 14 (by decide) (by decide), g2, g3, k3, k4, m0, m1, hJ, g1 (17 + 2) (by decide) (by decide), g1 (17 + 3) (by decide) (by decide)]
        refine ⟨⟨rfl, rfl⟩, by rw [e17] at *; omega, fun s' u v => ?_, fun l' s' u1 w1 u v => ?_⟩
        · rw [k2 _ (by omega) (by omega), k2 _ (by omega) (by omega)]
          exact m3 s' u v
        · have q5 := z.2.2.2.2.1 s' u v
          rw [show (17 + 1 : Nat) = 18 from rfl, g4 l' s' u1 w1 u v, k5 l' s' u1 (by rw [s2.1.2.1]; exact w1) u (by rw [s2.1.1]; exact v), br_V s2 s3 n ⟨u1, w1⟩ ⟨u, v⟩]
          exact ⟨rfl, cl_bound (by omega)⟩
      refine ⟨_, rfl, rfl, Sim_x3 hs ⟨XB_Mo s3.1 (g1 13 (by decide) (by decide)) (g1 14 (by decide) (by decide)) (g1 15 (by decide) (by decide)) hm, ?_, hm⟩ (fun c hc => g1 c (by omega) (by omega)) (fun j _ => by rw [k1 0 (by decide)]) (fun c hc => k1 c hc)⟩
      unfold XPl
      rw [g1 13 (by decide) (by decide), g1 16 (by decide) (by decide)]
      exact s3.2.1
  · rw [if_pos c1] at hp hq
    obtain ⟨rfl, rfl⟩ := hp
    obtain ⟨rfl, rfl⟩ := hq
    exact ⟨_, rfl, rfl, h⟩

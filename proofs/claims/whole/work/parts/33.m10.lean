/-! orders, by the reference -/
def MPn (μ : Mem) : Prop := (0 ≤ μ 0 30 ∧ μ 0 30 ≤ 5) ∧ ∀ i : Int, 0 ≤ i → i < μ 0 30 → (0 ≤ μ 12 i ∧ μ 12 i < μ 0 14) ∧ (-9 ≤ μ 13 i ∧ μ 13 i ≤ 9)
def mSty (μ : Mem) (l : Int) (p : List Int) : Int := sty (mEn μ 7) (μ 2) (μ 0 14) (μ 12) (μ 13) p (fun s => μ 7 (8 + 4 * l + s))
def mSel (μ : Mem) (l wo : Int) : List (List Int) := (perms (μ 0 30).toNat wo).filter (fun p => mSty μ l p == 1)
theorem shl_n : ∀ d : Fin 6, (Int32.ofInt 1 <<< (Int32.ofInt (d.val : Nat) &&& 31)).toInt = ((2 ^ d.val : Nat) : Int) := by decide +kernel
theorem or_n : ∀ a b : Fin 32, (Int32.ofInt (a.val : Nat) ||| Int32.ofInt (b.val : Nat)).toInt = ((a.val ||| b.val : Nat) : Int) := by decide +kernel
theorem xor_n : ∀ d : Fin 5, (Int32.ofInt ((2 ^ d.val : Nat) : Int) ^^^ Int32.ofInt (-1)).toInt = -((2 ^ d.val : Nat) : Int) - 1 := by decide +kernel
theorem and_n : ∀ (n : Fin 6) (d : Fin 5), d.val < n.val → (Int32.ofInt (((2 ^ n.val : Nat) : Int) - 1) &&& Int32.ofInt (-((2 ^ d.val : Nat) : Int) - 1)).toInt = ((2 ^ n.val - 1 - 2 ^ d.val : Nat) : Int) := by decide +kernel
theorem dgs_len (n : Nat) : ∀ (k w : Nat), (dgs n k w).length = k
  | 0, _ => rfl
  | k + 1, w => by rw [dgs, List.length_append, dgs_len n k]; rfl
theorem dgs_bd {n : Nat} (hn : 0 < n) : ∀ (k w : Nat), ∀ z ∈ dgs n k w, 0 ≤ z ∧ z < n
  | 0, _, z, h => by cases h
  | k + 1, w, z, h => by
    rw [dgs, List.mem_append] at h
    rcases h with h | h
    · exact dgs_bd hn k _ z h
    · rw [List.mem_singleton] at h
      have := Nat.mod_lt w hn
      omega
theorem fOf_mid (a t : List Int) (d : Int) (i : Int) (h : i = a.length) : fOf (a ++ [d] ++ t) i = d := by
  subst h
  unfold fOf
  rw [Int.toNat_natCast, List.getD_eq_getElem?_getD, List.append_assoc, List.getElem?_append_right (Nat.le_refl _), Nat.sub_self]
  rfl
def FrO (μ ν : Mem) : Prop := ∀ c : Nat, c ≠ 8 → c ≠ 17 → ν c = μ c
theorem MB_fro {μ ν : Mem} (hB : MB μ) (h : FrO μ ν) : MB ν := MB_of hB (h 0 (by decide) (by decide)) (h 2 (by decide) (by decide)) (h 5 (by decide) (by decide)) (h 7 (by decide) (by decide))

set_option maxRecDepth 100000 in
set_option maxHeartbeats 4000000 in
theorem X7_isOrder (μ : Mem) (hB : MB μ) (hP : MPn μ) (l : Int) (way many nn : Nat) (wo : Int) (hl : 0 ≤ l ∧ l < μ 0 15) (hn : μ 0 30 = nn) (hmany : many = pcn nn wo) (hw : wo = -9 ∨ (0 ≤ wo ∧ wo < nn)) (hway : way ≤ 100000) : CT TM md_X7_isOrder [aR 0, aI l, aI way, aI many, aI wo] μ (fun rv μ1 => rv = some (aI (if metA nn many way 0 = wantd nn wo ∧ mSty μ l (dgs nn many way) = 1 then 1 else 0)) ∧ FrO μ μ1 ∧ ∀ j : Int, 0 ≤ j → j < many → μ1 17 j = fOf (dgs nn many way) j) := by
  refine CT.of (Nat.le_of_ble_eq_true rfl) (by decide) rfl (Nat.le_of_ble_eq_true rfl) (fun X hG hX => ?_)
  have hG : G TM X RX7 cX7_isOrder 10 4 92 (some .boolean) := hG
  show J TM X 10 0 [some (aR 0), some (aI l), some (aI way), some (aI many), some (aI wo), none, none, none, none, none] [] μ
  have hB2 := hB
  obtain ⟨h1, h2, h3, h4, h5, h6⟩ := hB2
  have hP1 := hP.1
  have hmn : (many : Int) ≤ nn := by rw [hmany]; unfold pcn; split <;> omega
  have hmw : ¬ wo = -9 → many + 1 = nn := by intro q; rw [hmany]; unfold pcn; rw [if_neg q]; omega
  have lp2 : ∀ (q : List Int) (i : Int) (ν : Mem) (g : Int → Int), 0 ≤ i → i + q.length = many → (∀ j : Int, 0 ≤ j → j < q.length → ν 17 (i + j) = fOf q j) → (∀ c ∈ q, 0 ≤ c ∧ c < nn) → (∀ j : Int, 0 ≤ j → j < many → ν 17 j = fOf (dgs nn many way) j) → FrO μ ν → (∀ j : Int, 0 ≤ j → j < 8 → ν 8 j = μ 7 j) → RB ν 8 → (∀ s : Int, 0 ≤ s → s < μ 0 14 → ν 8 (8 + 4 * l + s) = g s) → metA nn many way 0 = wantd nn wo → sty (mEn μ 7) (μ 2) (μ 0 14) (μ 12) (μ 13) q g = mSty μ l (dgs nn many way) → J TM X 10 110 [some (aR 0), some (aI l), some (aI way), some (aI many), some (aI wo), none, none, none, some (aI i), none] [] ν := by
    intro q
    induction q with
    | nil =>
      intro i ν g i0 i1 iq ic hrow hF hlaw hR hg hmet i2
      simp only [List.length_nil] at i1
      rw [sty] at i2
      refine J.iload hG dX7_isOrder_110 rfl ?_
      refine J.iload_n hG dX7_isOrder_112 rfl rfl ?_
      refine J.icmp_ge hG 206 dX7_isOrder_113 rfl (fun h113 => ?_) (fun h113 => absurd h113 (by omega))
      refine J.iconst hG dX7_isOrder_206 (by decide) ?_
      refine J.zret hG (by first | exact Or.inl rfl | exact Or.inr rfl | assumption | (split <;> first | exact Or.inl rfl | exact Or.inr rfl)) dX7_isOrder_207 ?_
      rw [hX]; dsimp only
      exact ⟨by rw [if_pos ⟨hmet, i2.symm⟩], hF, hrow⟩
    | cons c cs ih =>
      intro i ν g i0 i1 iq ic hrow hF hlaw hR hg hmet i2
      rw [List.length_cons] at i1 iq
      rw [sty] at i2
      have hc := ic c List.mem_cons_self
      have hpn := hP.2 c hc.1 (by omega)
      have q5 := h5 (μ 12 c) hpn.1.1 hpn.1.2
      have hgc := hg (μ 12 c) hpn.1.1 hpn.1.2
      have hi : ν 17 i = c := by
        have := iq 0 (by omega) (by omega)
        rw [Int.add_zero] at this
        rw [this]
        rfl
      have e0 : ν 0 = μ 0 := hF 0 (by decide) (by decide)
      have e2 : ν 2 = μ 2 := hF 2 (by decide) (by decide)
      have e12 : ν 12 = μ 12 := hF 12 (by decide) (by decide)
      have e13 : ν 13 = μ 13 := hF 13 (by decide) (by decide)
      have e30 : ν 0 30 = μ 0 30 := by rw [e0]
      refine J.iload hG dX7_isOrder_110 rfl ?_
      refine J.iload_n hG dX7_isOrder_112 rfl rfl ?_
      refine J.icmp_ge hG 206 dX7_isOrder_113 rfl (fun h113 => absurd h113 (by omega)) (fun h113 => ?_)
      have q8 := hR.2 l (μ 12 c) (by omega) (by rw [e0]; omega) hpn.1.1 (by rw [e0]; exact hpn.1.2)
      rw [e2] at q8
      refine J.bipush hG dX7_isOrder_116 (by decide) (by decide) ?_
      refine J.iconst hG dX7_isOrder_118 (by decide) ?_
      refine J.iload_n hG dX7_isOrder_119 rfl rfl ?_
      refine J.imul hG dX7_isOrder_120 (fun _ _ => (by first | omega | (rw [hi]; omega) | (rw [hi, e12]; omega) | (rw [e30]; omega) | (rw [hi, e12, hgc, e13]; omega) | (rw [hi, e13, hgc]; omega))) ?_
      refine J.iadd hG dX7_isOrder_121 (fun _ _ => (by first | omega | (rw [hi]; omega) | (rw [hi, e12]; omega) | (rw [e30]; omega) | (rw [hi, e12, hgc, e13]; omega) | (rw [hi, e13, hgc]; omega))) ?_
      refine J.aload_n hG dX7_isOrder_122 rfl rfl ?_
      refine J.getR hG ciX7 rfl 28 28 rfl (Nat.le_of_ble_eq_true rfl) rfl fl_X7_44 dX7_isOrder_123 ?_
      refine J.aload_n hG dX7_isOrder_126 rfl rfl ?_
      refine J.getR hG ciX7 rfl 35 35 rfl (Nat.le_of_ble_eq_true rfl) rfl fl_X7_59 dX7_isOrder_127 ?_
      refine J.iload hG dX7_isOrder_130 rfl ?_
      refine J.iald hG rfl (by first | omega | (rw [hi]; omega) | (rw [hi, e12]; omega) | (rw [e30]; omega) | (rw [hi, e12, hgc, e13]; omega) | (rw [hi, e13, hgc]; omega)) (by first | omega | (rw [hi]; omega) | (rw [hi, e12]; omega) | (rw [e30]; omega) | (rw [hi, e12, hgc, e13]; omega) | (rw [hi, e13, hgc]; omega)) dX7_isOrder_132 ?_
      refine J.iald hG rfl (by first | omega | (rw [hi]; omega) | (rw [hi, e12]; omega) | (rw [e30]; omega) | (rw [hi, e12, hgc, e13]; omega) | (rw [hi, e13, hgc]; omega)) (by first | omega | (rw [hi]; omega) | (rw [hi, e12]; omega) | (rw [e30]; omega) | (rw [hi, e12, hgc, e13]; omega) | (rw [hi, e13, hgc]; omega)) dX7_isOrder_133 ?_
      refine J.iadd hG dX7_isOrder_134 (fun _ _ => (by first | omega | (rw [hi]; omega) | (rw [hi, e12]; omega) | (rw [e30]; omega) | (rw [hi, e12, hgc, e13]; omega) | (rw [hi, e13, hgc]; omega))) ?_
      rw [hi, e12]
      refine J.istore hG dX7_isOrder_135 (Nat.le_of_ble_eq_true rfl) ?_
      refine J.aload_n hG dX7_isOrder_137 rfl rfl ?_
      refine J.getR hG ciX7 rfl 23 23 rfl (Nat.le_of_ble_eq_true rfl) rfl fl_X7_31 dX7_isOrder_138 ?_
      refine J.iload hG dX7_isOrder_141 rfl ?_
      refine J.aload_n hG dX7_isOrder_143 rfl rfl ?_
      refine J.getR hG ciX7 rfl 23 23 rfl (Nat.le_of_ble_eq_true rfl) rfl fl_X7_31 dX7_isOrder_144 ?_
      refine J.iload hG dX7_isOrder_147 rfl ?_
      
      refine J.iald hG rfl (by first | omega | (rw [hi]; omega) | (rw [hi, e12]; omega) | (rw [e30]; omega) | (rw [hi, e12, hgc, e13]; omega) | (rw [hi, e13, hgc]; omega)) (by first | omega | (rw [hi]; omega) | (rw [hi, e12]; omega) | (rw [e30]; omega) | (rw [hi, e12, hgc, e13]; omega) | (rw [hi, e13, hgc]; omega)) dX7_isOrder_149 ?_
      refine J.aload_n hG dX7_isOrder_150 rfl rfl ?_
      refine J.getR hG ciX7 rfl 29 29 rfl (Nat.le_of_ble_eq_true rfl) rfl fl_X7_47 dX7_isOrder_151 ?_
      refine J.aload_n hG dX7_isOrder_154 rfl rfl ?_
      refine J.getR hG ciX7 rfl 35 35 rfl (Nat.le_of_ble_eq_true rfl) rfl fl_X7_59 dX7_isOrder_155 ?_
      refine J.iload hG dX7_isOrder_158 rfl ?_
      refine J.iald hG rfl (by first | omega | (rw [hi]; omega) | (rw [hi, e12]; omega) | (rw [e30]; omega) | (rw [hi, e12, hgc, e13]; omega) | (rw [hi, e13, hgc]; omega)) (by first | omega | (rw [hi]; omega) | (rw [hi, e12]; omega) | (rw [e30]; omega) | (rw [hi, e12, hgc, e13]; omega) | (rw [hi, e13, hgc]; omega)) dX7_isOrder_160 ?_
      refine J.iald hG rfl (by first | omega | (rw [hi]; omega) | (rw [hi, e12]; omega) | (rw [e30]; omega) | (rw [hi, e12, hgc, e13]; omega) | (rw [hi, e13, hgc]; omega)) (by first | omega | (rw [hi]; omega) | (rw [hi, e12]; omega) | (rw [e30]; omega) | (rw [hi, e12, hgc, e13]; omega) | (rw [hi, e13, hgc]; omega)) dX7_isOrder_161 ?_
      refine J.iadd hG dX7_isOrder_162 (fun _ _ => (by first | omega | (rw [hi]; omega) | (rw [hi, e12]; omega) | (rw [e30]; omega) | (rw [hi, e12, hgc, e13]; omega) | (rw [hi, e13, hgc]; omega))) ?_
      refine J.aload_n hG dX7_isOrder_163 rfl rfl ?_
      refine J.getR hG ciX7 rfl 9 9 rfl (Nat.le_of_ble_eq_true rfl) rfl fl_X7_13 dX7_isOrder_164 ?_
      refine J.aload_n hG dX7_isOrder_167 rfl rfl ?_
      refine J.getR hG ciX7 rfl 28 28 rfl (Nat.le_of_ble_eq_true rfl) rfl fl_X7_44 dX7_isOrder_168 ?_
      refine J.aload_n hG dX7_isOrder_171 rfl rfl ?_
      refine J.getR hG ciX7 rfl 35 35 rfl (Nat.le_of_ble_eq_true rfl) rfl fl_X7_59 dX7_isOrder_172 ?_
      refine J.iload hG dX7_isOrder_175 rfl ?_
      refine J.iald hG rfl (by first | omega | (rw [hi]; omega) | (rw [hi, e12]; omega) | (rw [e30]; omega) | (rw [hi, e12, hgc, e13]; omega) | (rw [hi, e13, hgc]; omega)) (by first | omega | (rw [hi]; omega) | (rw [hi, e12]; omega) | (rw [e30]; omega) | (rw [hi, e12, hgc, e13]; omega) | (rw [hi, e13, hgc]; omega)) dX7_isOrder_177 ?_
      refine J.iald hG rfl (by first | omega | (rw [hi]; omega) | (rw [hi, e12]; omega) | (rw [e30]; omega) | (rw [hi, e12, hgc, e13]; omega) | (rw [hi, e13, hgc]; omega)) (by first | omega | (rw [hi]; omega) | (rw [hi, e12]; omega) | (rw [e30]; omega) | (rw [hi, e12, hgc, e13]; omega) | (rw [hi, e13, hgc]; omega)) dX7_isOrder_178 ?_
      refine J.iald hG rfl (by first | omega | (rw [hi]; omega) | (rw [hi, e12]; omega) | (rw [e30]; omega) | (rw [hi, e12, hgc, e13]; omega) | (rw [hi, e13, hgc]; omega)) (by first | omega | (rw [hi]; omega) | (rw [hi, e12]; omega) | (rw [e30]; omega) | (rw [hi, e12, hgc, e13]; omega) | (rw [hi, e13, hgc]; omega)) dX7_isOrder_179 ?_
      refine J.callS hG (X7_held _ _ _) ok_X7_held ml_X7_180 rfl (Nat.le_of_ble_eq_true rfl) ⟨Nat.le_of_ble_eq_true rfl, Nat.le_of_ble_eq_true rfl⟩ dX7_isOrder_180 rfl (fun r1 μ1 hp1 => ?_)
      obtain ⟨rfl, rfl⟩ := hp1
      rw [hi, e12, e13, e2]
      refine J.iast hG rfl (by first | omega | (rw [hi]; omega) | (rw [hi, e12]; omega) | (rw [e30]; omega) | (rw [hi, e12, hgc, e13]; omega) | (rw [hi, e13, hgc]; omega)) (by first | omega | (rw [hi]; omega) | (rw [hi, e12]; omega) | (rw [e30]; omega) | (rw [hi, e12, hgc, e13]; omega) | (rw [hi, e13, hgc]; omega)) dX7_isOrder_183 ?_
      rw [hgc]
      have hF2 : FrO μ (up ν 8 (8 + 4 * l + μ 12 c) (cl (μ 2 (μ 12 c)) (g (μ 12 c) + μ 13 c))) := fun d a b => by rw [up_cell _ _ _ a]; exact hF d a b
      have cb := cl_bound (r := μ 2 (μ 12 c)) (x := g (μ 12 c) + μ 13 c) (by omega)
      have hR2 : RB (up ν 8 (8 + 4 * l + μ 12 c) (cl (μ 2 (μ 12 c)) (g (μ 12 c) + μ 13 c))) 8 := by
        refine ⟨hR.1, fun l' s' a b c' d => ?_⟩
        rw [hF2 0 (by decide) (by decide)] at b d
        rw [hF2 2 (by decide) (by decide)]
        by_cases hz : 8 + 4 * l' + s' = 8 + 4 * l + μ 12 c
        · have : s' = μ 12 c := by omega
          rw [hz, up_self, this]
          exact cb
        · rw [up_ne _ (fun w => hz w.2), ← e2]
          exact hR.2 l' s' a (by rw [e0]; exact b) c' (by rw [e0]; exact d)
      have hg2 : ∀ s : Int, 0 ≤ s → s < μ 0 14 → up ν 8 (8 + 4 * l + μ 12 c) (cl (μ 2 (μ 12 c)) (g (μ 12 c) + μ 13 c)) 8 (8 + 4 * l + s) = upf g (μ 12 c) (cl (μ 2 (μ 12 c)) (g (μ 12 c) + μ 13 c)) s := fun s a b => by
        unfold upf
        by_cases hz : s = μ 12 c
        · rw [hz, up_self, if_pos rfl]
        · rw [up_ne _ (fun w => hz (by omega)), if_neg hz]
          exact hg s a b
      have hlaw2 : ∀ j : Int, 0 ≤ j → j < 8 → up ν 8 (8 + 4 * l + μ 12 c) (cl (μ 2 (μ 12 c)) (g (μ 12 c) + μ 13 c)) 8 j = μ 7 j := fun j a b => by rw [up_ne _ (fun w => by omega)]; exact hlaw j a b
      have hU : mU (up ν 8 (8 + 4 * l + μ 12 c) (cl (μ 2 (μ 12 c)) (g (μ 12 c) + μ 13 c))) 8 l = fs3 (fun s => mEn μ 7 s (upf g (μ 12 c) (cl (μ 2 (μ 12 c)) (g (μ 12 c) + μ 13 c)) s)) (μ 0 14).toNat 0 := by
        unfold mU
        rw [hF2 0 (by decide) (by decide)]
        refine fs3_congr _ _ (fun s a b => ?_)
        unfold mE mEn
        rw [hg2 s a (by omega), hF2 2 (by decide) (by decide), hlaw2 (2 * s) (by omega) (by omega), hlaw2 (2 * s + 1) (by omega) (by omega)]
      have hrow2 : ∀ j : Int, 0 ≤ j → j < many → up ν 8 (8 + 4 * l + μ 12 c) (cl (μ 2 (μ 12 c)) (g (μ 12 c) + μ 13 c)) 17 j = fOf (dgs nn many way) j := fun j a b => by rw [up_cell _ _ _ (by decide)]; exact hrow j a b
      refine J.aload_n hG dX7_isOrder_184 rfl rfl ?_
      refine J.aload_n hG dX7_isOrder_185 rfl rfl ?_
      refine J.getR hG ciX7 rfl 23 23 rfl (Nat.le_of_ble_eq_true rfl) rfl fl_X7_31 dX7_isOrder_186 ?_
      refine J.iload_n hG dX7_isOrder_189 rfl rfl ?_
      refine J.callV hG (X7_unlawfulOn _ (MB_fro hB hF2) 8 hR2 l (by rw [hF2 0 (by decide) (by decide)]; exact hl)) ok_X7_unlawfulOn ml_X7_190 rfl rfl rfl rfl (Nat.le_of_ble_eq_true rfl) ⟨Nat.le_of_ble_eq_true rfl, Nat.le_of_ble_eq_true rfl⟩ dX7_isOrder_190 rfl (fun r1 μ1 hp1 => ?_)
      obtain ⟨rfl, rfl⟩ := hp1
      rw [hU]
      refine J.bipush hG dX7_isOrder_193 (by decide) (by decide) ?_
      refine J.icmp_eq hG 200 dX7_isOrder_195 rfl (fun h195 => ?_) (fun h195 => ?_)
      · refine J.iinc hG dX7_isOrder_200 (Nat.le_of_ble_eq_true rfl) rfl (fun _ => (by first | omega | (rw [hi]; omega) | (rw [hi, e12]; omega) | (rw [e30]; omega) | (rw [hi, e12, hgc, e13]; omega) | (rw [hi, e13, hgc]; omega))) ?_
        refine J.goto hG 110 dX7_isOrder_203 rfl ?_
        rw [if_pos (by omega)] at i2
        exact J.drop 9 (ih (i + 1) _ _ (by omega) (by omega) (fun j a b => by rw [up_cell _ _ _ (by decide), ← fOf_cons c cs j a, ← iq (j + 1) (by omega) (by omega)]; congr 1; omega) (fun z hz => ic z (List.mem_cons_of_mem _ hz)) hrow2 hF2 hlaw2 hR2 hg2 hmet i2)
      · refine J.iconst hG dX7_isOrder_198 (by decide) ?_
        refine J.zret hG (by first | exact Or.inl rfl | exact Or.inr rfl | assumption | (split <;> first | exact Or.inl rfl | exact Or.inr rfl)) dX7_isOrder_199 ?_
        rw [hX]; dsimp only
        rw [if_neg (by omega)] at i2
        exact ⟨by rw [if_neg (fun w => by omega)], hF2, hrow2⟩
  have lp1 : ∀ (k : Nat) (i : Int) (ν : Mem) (a wl : Nat), i + 1 = k → k ≤ many → XFr 17 μ ν → (∀ j : Int, i < j → j < many → ν 17 j = fOf (dgs nn many way) j) → metA nn k wl a = metA nn many way 0 → (∃ t, (dgs nn many way) = dgs nn k wl ++ t) → a < 32 → wl ≤ 100000 → J TM X 10 11 [some (aR 0), some (aI l), some (aI way), some (aI many), some (aI wo), some (aI (a : Nat)), some (aI (wl : Nat)), some (aI i), none, none] [] ν := by
    intro k
    induction k with
    | zero =>
      intro i ν a wl i0 i1 hF hrow hmet ht ha hwl
      have e0 : ν 0 = μ 0 := hF 0 (by decide)
      have e30 : ν 0 30 = nn := by rw [e0]; exact hn
      have hp2 : 1 ≤ 2 ^ nn ∧ 2 ^ nn ≤ 32 := ⟨Nat.one_le_two_pow, Nat.le_trans (Nat.pow_le_pow_right (by decide) (show nn ≤ 5 by omega)) (by decide)⟩
      simp only [metA] at hmet
      subst hmet
      refine J.iload hG dX7_isOrder_11 rfl ?_
      refine J.if_lt hG 59 dX7_isOrder_13 rfl (fun h13 => ?_) (fun h13 => absurd h13 (by omega))
      refine J.iload hG dX7_isOrder_59 rfl ?_
      refine J.bipush hG dX7_isOrder_61 (by decide) (by decide) ?_
      refine J.icmp_ne hG 77 dX7_isOrder_63 rfl (fun h63 => ?_) (fun h63 => ?_)
      · refine J.iconst hG dX7_isOrder_77 (by decide) ?_
        refine J.aload_n hG dX7_isOrder_78 rfl rfl ?_
        refine J.getI hG ciX7 rfl 30 30 rfl (Nat.le_of_ble_eq_true rfl) rfl fl_X7_153 dX7_isOrder_79 ?_
        rw [e30]
        refine J.ishl hG (((2 ^ nn : Nat) : Int)) dX7_isOrder_82 (fun _ _ => (by exact shl_n ⟨nn, by omega⟩)) ?_
        refine J.iconst hG dX7_isOrder_83 (by decide) ?_
        refine J.isub hG dX7_isOrder_84 (fun _ _ => (by omega)) ?_
        refine J.iconst hG dX7_isOrder_85 (by decide) ?_
        refine J.iload hG dX7_isOrder_86 rfl ?_
        refine J.ishl hG (((2 ^ wo.toNat : Nat) : Int)) dX7_isOrder_88 (fun _ _ => (by have hz := shl_n ⟨wo.toNat, by omega⟩; rw [show ((wo.toNat : Nat) : Int) = wo by omega] at hz; exact hz)) ?_
        refine J.iconst hG dX7_isOrder_89 (by decide) ?_
        refine J.ixor hG ((-((2 ^ wo.toNat : Nat) : Int) - 1)) dX7_isOrder_90 (fun _ _ => (by exact xor_n ⟨wo.toNat, by omega⟩)) ?_
        refine J.iand hG (((2 ^ nn - 1 - 2 ^ wo.toNat : Nat) : Int)) dX7_isOrder_91 (fun _ _ => (by exact and_n ⟨nn, by omega⟩ ⟨wo.toNat, by omega⟩ (by show wo.toNat < nn; omega))) ?_
        have ew : ((2 ^ nn - 1 - 2 ^ wo.toNat : Nat) : Int) = ((wantd nn wo : Nat) : Int) := by unfold wantd; rw [if_neg (by omega)]
        rw [ew]
        refine J.istore hG dX7_isOrder_92 (Nat.le_of_ble_eq_true rfl) ?_
        refine J.iload hG dX7_isOrder_94 rfl ?_
        refine J.iload hG dX7_isOrder_96 rfl ?_
        refine J.icmp_eq hG 103 dX7_isOrder_98 rfl (fun h98 => ?_) (fun h98 => ?_)
        · refine J.aload_n hG dX7_isOrder_103 rfl rfl ?_
          refine J.callV hG (X7_asNow _) ok_X7_asNow ml_X7_211 rfl rfl rfl rfl (Nat.le_of_ble_eq_true rfl) ⟨Nat.le_of_ble_eq_true rfl, Nat.le_of_ble_eq_true rfl⟩ dX7_isOrder_104 rfl (fun r1 α hp1 => ?_)
          obtain ⟨rfl, hA1, hA2⟩ := hp1
          refine J.iconst hG dX7_isOrder_107 (by decide) ?_
          refine J.istore hG dX7_isOrder_108 (Nat.le_of_ble_eq_true rfl) ?_
          refine J.drop 5 (J.drop 6 (J.drop 7 (lp2 (dgs nn many way) 0 α (fun s => μ 7 (8 + 4 * l + s)) (Int.le_refl _) (by rw [dgs_len]; omega) (fun j a b => ?_) ?_ (fun j a b => ?_) ?_ ?_ ?_ ?_ (by omega) rfl)))
          · rw [dgs_len] at b
            rw [Int.zero_add, hA1 17 (by decide)]
            exact hrow j (by omega) b
          · intro c hc
            rcases Nat.eq_zero_or_pos nn with hz | hz
            · exfalso
              have : many = 0 := by omega
              rw [this] at hc
              cases hc
            · exact dgs_bd hz _ _ c hc
          · rw [hA1 17 (by decide)]
            exact hrow j (by omega) b
          · intro d a b
            rw [hA1 d a, hF d b]
          · intro j a b
            rw [hA2 j a (by omega), hF 7 (by decide)]
          · refine ⟨⟨rfl, by decide, by decide, by decide⟩, fun l' s' a b c d => ?_⟩
            rw [hA1 0 (by decide), e0] at b d
            rw [hA1 2 (by decide), hF 2 (by decide), hA2 _ (by omega) (by omega), hF 7 (by decide)]
            exact (h6 l' s' a b c d).2.2
          · intro s a b
            rw [hA2 _ (by omega) (by omega), hF 7 (by decide)]
        · refine J.iconst hG dX7_isOrder_101 (by decide) ?_
          refine J.zret hG (by first | exact Or.inl rfl | exact Or.inr rfl | assumption | (split <;> first | exact Or.inl rfl | exact Or.inr rfl)) dX7_isOrder_102 ?_
          rw [hX]; dsimp only
          exact ⟨by rw [if_neg (fun w => by omega)], fun c a b => hF c b, fun j c d => hrow j (by omega) d⟩
      · refine J.iconst hG dX7_isOrder_66 (by decide) ?_
        
        refine J.aload_n hG dX7_isOrder_67 rfl rfl ?_
        refine J.getI hG ciX7 rfl 30 30 rfl (Nat.le_of_ble_eq_true rfl) rfl fl_X7_153 dX7_isOrder_68 ?_
        rw [e30]
        refine J.ishl hG (((2 ^ nn : Nat) : Int)) dX7_isOrder_71 (fun _ _ => (by exact shl_n ⟨nn, by omega⟩)) ?_
        refine J.iconst hG dX7_isOrder_72 (by decide) ?_
        refine J.isub hG dX7_isOrder_73 (fun _ _ => (by omega)) ?_
        refine J.goto hG 92 dX7_isOrder_74 rfl ?_
        have ew : ((2 ^ nn : Nat) : Int) - 1 = ((wantd nn wo : Nat) : Int) := by unfold wantd; rw [if_pos (by omega)]; have := Nat.one_le_two_pow (n := nn); omega
        rw [ew]
        refine J.istore hG dX7_isOrder_92 (Nat.le_of_ble_eq_true rfl) ?_
        refine J.iload hG dX7_isOrder_94 rfl ?_
        refine J.iload hG dX7_isOrder_96 rfl ?_
        refine J.icmp_eq hG 103 dX7_isOrder_98 rfl (fun h98 => ?_) (fun h98 => ?_)
        · refine J.aload_n hG dX7_isOrder_103 rfl rfl ?_
          refine J.callV hG (X7_asNow _) ok_X7_asNow ml_X7_211 rfl rfl rfl rfl (Nat.le_of_ble_eq_true rfl) ⟨Nat.le_of_ble_eq_true rfl, Nat.le_of_ble_eq_true rfl⟩ dX7_isOrder_104 rfl (fun r1 α hp1 => ?_)
          obtain ⟨rfl, hA1, hA2⟩ := hp1
          refine J.iconst hG dX7_isOrder_107 (by decide) ?_
          refine J.istore hG dX7_isOrder_108 (Nat.le_of_ble_eq_true rfl) ?_
          refine J.drop 5 (J.drop 6 (J.drop 7 (lp2 (dgs nn many way) 0 α (fun s => μ 7 (8 + 4 * l + s)) (Int.le_refl _) (by rw [dgs_len]; omega) (fun j a b => ?_) ?_ (fun j a b => ?_) ?_ ?_ ?_ ?_ (by omega) rfl)))
          · rw [dgs_len] at b
            rw [Int.zero_add, hA1 17 (by decide)]
            exact hrow j (by omega) b
          · intro c hc
            rcases Nat.eq_zero_or_pos nn with hz | hz
            · exfalso
              have : many = 0 := by omega
              rw [this] at hc
              cases hc
            · exact dgs_bd hz _ _ c hc
          · rw [hA1 17 (by decide)]
            exact hrow j (by omega) b
          · intro d a b
            rw [hA1 d a, hF d b]
          · intro j a b
            rw [hA2 j a (by omega), hF 7 (by decide)]
          · refine ⟨⟨rfl, by decide, by decide, by decide⟩, fun l' s' a b c d => ?_⟩
            rw [hA1 0 (by decide), e0] at b d
            rw [hA1 2 (by decide), hF 2 (by decide), hA2 _ (by omega) (by omega), hF 7 (by decide)]
            exact (h6 l' s' a b c d).2.2
          · intro s a b
            rw [hA2 _ (by omega) (by omega), hF 7 (by decide)]
        · refine J.iconst hG dX7_isOrder_101 (by decide) ?_
          refine J.zret hG (by first | exact Or.inl rfl | exact Or.inr rfl | assumption | (split <;> first | exact Or.inl rfl | exact Or.inr rfl)) dX7_isOrder_102 ?_
          rw [hX]; dsimp only
          exact ⟨by rw [if_neg (fun w => by omega)], fun c a b => hF c b, fun j c d => hrow j (by omega) d⟩
    | succ k ih =>
      intro i ν a wl i0 i1 hF hrow hmet ht ha hwl
      have e0 : ν 0 = μ 0 := hF 0 (by decide)
      have e30 : ν 0 30 = nn := by rw [e0]; exact hn
      have hnn : 0 < nn := by omega
      have hdm : wl % nn < nn := Nat.mod_lt _ hnn
      have hki : i = (k : Int) := by omega
      obtain ⟨t, ht⟩ := ht
      rw [dgs] at ht
      rw [metA] at hmet
      have edm : ((wl : Nat) : Int) % (nn : Int) = ((wl % nn : Nat) : Int) := (Int.natCast_emod _ _).symm
      have edd : ((wl : Nat) : Int) / (nn : Int) = ((wl / nn : Nat) : Int) := (Int.natCast_ediv _ _).symm
      have h2p : 2 ^ (wl % nn) < 32 := Nat.lt_of_lt_of_le (Nat.pow_lt_pow_right (by decide) (show wl % nn < 5 by omega)) (by decide)
      have hor : (a ||| 2 ^ (wl % nn)) < 2 ^ 5 := Nat.or_lt_two_pow ha h2p
      have hdl : wl / nn ≤ wl := Nat.div_le_self _ _
      refine J.iload hG dX7_isOrder_11 rfl ?_
      refine J.if_lt hG 59 dX7_isOrder_13 rfl (fun h13 => absurd h13 (by omega)) (fun h13 => ?_)
      refine J.aload_n hG dX7_isOrder_16 rfl rfl ?_
      refine J.getR hG ciX7 rfl 35 35 rfl (Nat.le_of_ble_eq_true rfl) rfl fl_X7_59 dX7_isOrder_17 ?_
      refine J.iload hG dX7_isOrder_20 rfl ?_
      refine J.iload hG dX7_isOrder_22 rfl ?_
      refine J.aload_n hG dX7_isOrder_24 rfl rfl ?_
      refine J.getI hG ciX7 rfl 30 30 rfl (Nat.le_of_ble_eq_true rfl) rfl fl_X7_153 dX7_isOrder_25 ?_
      
      refine J.irem hG dX7_isOrder_28 (by first | omega | (rw [e30]; omega) | (rw [up_cell _ _ _ (by decide), e30]; omega)) (by first | omega | (rw [e30]; omega) | (rw [up_cell _ _ _ (by decide), e30]; omega)) ?_
      rw [e30, edm]
      refine J.iast hG rfl (by first | omega | (rw [e30]; omega) | (rw [up_cell _ _ _ (by decide), e30]; omega)) (by first | omega | (rw [e30]; omega) | (rw [up_cell _ _ _ (by decide), e30]; omega)) dX7_isOrder_29 ?_
      refine J.iload hG dX7_isOrder_30 rfl ?_
      refine J.iconst hG dX7_isOrder_32 (by decide) ?_
      refine J.aload_n hG dX7_isOrder_33 rfl rfl ?_
      refine J.getR hG ciX7 rfl 35 35 rfl (Nat.le_of_ble_eq_true rfl) rfl fl_X7_59 dX7_isOrder_34 ?_
      refine J.iload hG dX7_isOrder_37 rfl ?_
      refine J.iald hG rfl (by first | omega | (rw [e30]; omega) | (rw [up_cell _ _ _ (by decide), e30]; omega)) (by first | omega | (rw [e30]; omega) | (rw [up_cell _ _ _ (by decide), e30]; omega)) dX7_isOrder_39 ?_
      rw [up_self]
      refine J.ishl hG (((2 ^ (wl % nn) : Nat) : Int)) dX7_isOrder_40 (fun _ _ => (by exact shl_n ⟨wl % nn, by omega⟩)) ?_
      refine J.ior hG (((a ||| 2 ^ (wl % nn) : Nat) : Int)) dX7_isOrder_41 (fun _ _ => (by exact or_n ⟨a, ha⟩ ⟨2 ^ (wl % nn), h2p⟩)) ?_
      refine J.istore hG dX7_isOrder_42 (Nat.le_of_ble_eq_true rfl) ?_
      refine J.iload hG dX7_isOrder_44 rfl ?_
      refine J.aload_n hG dX7_isOrder_46 rfl rfl ?_
      refine J.getI hG ciX7 rfl 30 30 rfl (Nat.le_of_ble_eq_true rfl) rfl fl_X7_153 dX7_isOrder_47 ?_
      refine J.idiv hG dX7_isOrder_50 (by first | omega | (rw [e30]; omega) | (rw [up_cell _ _ _ (by decide), e30]; omega)) (by first | omega | (rw [e30]; omega) | (rw [up_cell _ _ _ (by decide), e30]; omega)) ?_
      refine J.istore hG dX7_isOrder_51 (Nat.le_of_ble_eq_true rfl) ?_
      rw [up_cell _ _ _ (by decide), e30, edd]
      refine J.iinc hG dX7_isOrder_53 (Nat.le_of_ble_eq_true rfl) rfl (fun _ => (by first | omega | (rw [e30]; omega) | (rw [up_cell _ _ _ (by decide), e30]; omega))) ?_
      refine J.goto hG 11 dX7_isOrder_56 rfl ?_
      refine ih (i + -1) _ (a ||| 2 ^ (wl % nn)) (wl / nn) (by omega) (by omega) (XFr_up hF _ _) (fun j c d => ?_) hmet ⟨[((wl % nn : Nat) : Int)] ++ t, by rw [ht, List.append_assoc]⟩ hor (by omega)
      by_cases hj : j = i
      · rw [hj, up_self, ht, fOf_mid _ _ _ _ (by rw [dgs_len]; exact hki)]
      · rw [up_ne _ (fun w => hj w.2)]
        exact hrow j (by omega) d
  refine J.iconst hG dX7_isOrder_0 (by decide) ?_
  refine J.istore hG dX7_isOrder_1 (Nat.le_of_ble_eq_true rfl) ?_
  refine J.iload_n hG dX7_isOrder_3 rfl rfl ?_
  refine J.istore hG dX7_isOrder_4 (Nat.le_of_ble_eq_true rfl) ?_
  refine J.iload_n hG dX7_isOrder_6 rfl rfl ?_
  refine J.iconst hG dX7_isOrder_7 (by decide) ?_
  refine J.isub hG dX7_isOrder_8 (fun _ _ => (by omega)) ?_
  refine J.istore hG dX7_isOrder_9 (Nat.le_of_ble_eq_true rfl) ?_
  exact lp1 many _ μ 0 way (by omega) (Nat.le_refl _) (fun _ _ => rfl) (fun j a b => absurd b (by omega)) rfl ⟨[], (List.append_nil _).symm⟩ (by decide) hway

def FrP (μ ν : Mem) : Prop := ∀ c : Nat, c ≠ 8 → c ≠ 17 → c ≠ 18 → ν c = μ c
theorem FrP_o {μ ν ν1 : Mem} (h : FrP μ ν) (g : FrO ν ν1) : FrP μ ν1 := fun c a b d => by rw [g c a b, h c a b d]
theorem FrP_up {μ ν : Mem} (h : FrP μ ν) (j x : Int) : FrP μ (up ν 18 j x) := fun c a b d => by rw [up_cell _ _ _ d]; exact h c a b d
theorem FrP_tr {μ ν ν1 : Mem} (h : FrP μ ν) (g : FrP ν ν1) : FrP μ ν1 := fun c a b d => by rw [g c a b d, h c a b d]
theorem MB_frp {μ ν : Mem} (hB : MB μ) (h : FrP μ ν) : MB ν := MB_of hB (h 0 (by decide) (by decide) (by decide)) (h 2 (by decide) (by decide) (by decide)) (h 5 (by decide) (by decide) (by decide)) (h 7 (by decide) (by decide) (by decide))
theorem MPn_frp {μ ν : Mem} (hP : MPn μ) (h : FrP μ ν) : MPn ν := by
  unfold MPn
  rw [h 0 (by decide) (by decide) (by decide), h 12 (by decide) (by decide) (by decide), h 13 (by decide) (by decide) (by decide)]
  exact hP
theorem mSty_frp {μ ν : Mem} (h : FrP μ ν) (l : Int) (p : List Int) : mSty ν l p = mSty μ l p := by
  have e : mEn ν 7 = mEn μ 7 := by
    funext s v
    unfold mEn
    rw [h 7 (by decide) (by decide) (by decide), h 2 (by decide) (by decide) (by decide)]
  unfold mSty
  rw [e, h 0 (by decide) (by decide) (by decide), h 2 (by decide) (by decide) (by decide), h 12 (by decide) (by decide) (by decide), h 13 (by decide) (by decide) (by decide), h 7 (by decide) (by decide) (by decide)]
theorem mSel_frp {μ ν : Mem} (h : FrP μ ν) (l wo : Int) : mSel ν l wo = mSel μ l wo := by
  unfold mSel
  rw [h 0 (by decide) (by decide) (by decide)]
  congr 1
  funext p
  rw [mSty_frp h]
def selG (μ : Mem) (l wo : Int) (n m way k : Nat) : List (List Int) := (((List.range' way k).filter (fun w => metA n m w 0 == wantd n wo)).map (dgs n m)).filter (fun p => mSty μ l p == 1)
theorem selG_all (μ : Mem) (l wo : Int) (n : Nat) (h : μ 0 30 = n) : mSel μ l wo = selG μ l wo n (pcn n wo) 0 (n ^ pcn n wo) := by
  unfold mSel perms selG
  rw [h, Int.toNat_natCast, List.range_eq_range']
theorem selG_yes {μ : Mem} {l wo : Int} {n m way k : Nat} (h : metA n m way 0 = wantd n wo ∧ mSty μ l (dgs n m way) = 1) : selG μ l wo n m way (k + 1) = dgs n m way :: selG μ l wo n m (way + 1) k := by
  unfold selG
  rw [List.range'_succ, List.filter_cons, if_pos (by simpa using h.1), List.map_cons, List.filter_cons, if_pos (by simpa using h.2)]
theorem selG_no {μ : Mem} {l wo : Int} {n m way k : Nat} (h : ¬ (metA n m way 0 = wantd n wo ∧ mSty μ l (dgs n m way) = 1)) : selG μ l wo n m way (k + 1) = selG μ l wo n m (way + 1) k := by
  unfold selG
  rw [List.range'_succ, List.filter_cons]
  by_cases h1 : metA n m way 0 = wantd n wo
  · rw [if_pos (by simpa using h1), List.map_cons, List.filter_cons, if_neg (by simpa using fun w => h ⟨h1, w⟩)]
  · rw [if_neg (by simpa using h1)]

set_option maxRecDepth 100000 in
set_option maxHeartbeats 4000000 in
theorem X7_ordersOf (μ : Mem) (hB : MB μ) (hP : MPn μ) (l : Int) (nn : Nat) (wo : Int) (hl : 0 ≤ l ∧ l < μ 0 15) (hn : μ 0 30 = nn) (hw : wo = -9 ∨ (0 ≤ wo ∧ wo < nn)) : CT TM md_X7_ordersOf [aR 0, aI l, aI wo] μ (fun rv μ1 => rv = some (aI (mSel μ l wo).length) ∧ FrP μ μ1 ∧ (mSel μ l wo ≠ [] → ∀ j : Int, 0 ≤ j → j < (pcn nn wo : Nat) → μ1 18 j = fOf ((mSel μ l wo).headD []) j)) := by
  refine CT.of (Nat.le_of_ble_eq_true rfl) (by decide) rfl (Nat.le_of_ble_eq_true rfl) (fun X hG hX => ?_)
  have hG : G TM X RX7 cX7_ordersOf 8 5 121 (some .int) := hG
  show J TM X 8 0 [some (aR 0), some (aI l), some (aI wo), none, none, none, none, none] [] μ
  have hB2 := hB
  obtain ⟨h1, h2, h3, h4, h5, h6⟩ := hB2
  have hP1 := hP.1
  have hpb : nn ^ pcn nn wo ≤ 3125 := Nat.le_trans (Nat.pow_le_pow_left (show nn ≤ 5 by omega) _) (Nat.le_trans (Nat.pow_le_pow_right (by decide) (show pcn nn wo ≤ 5 by unfold pcn; split <;> omega)) (by decide))
  have hpc : pcn nn wo ≤ 5 := by unfold pcn; split <;> omega
  have lp : ∀ (k way : Nat) (cnt : Int) (ν : Mem), way + k = nn ^ pcn nn wo → (0 ≤ cnt ∧ cnt ≤ way) → FrP μ ν → (∃ done : List (List Int), mSel μ l wo = done ++ selG μ l wo nn (pcn nn wo) way k ∧ cnt = done.length ∧ (done ≠ [] → ∀ j : Int, 0 ≤ j → j < (pcn nn wo : Nat) → ν 18 j = fOf ((mSel μ l wo).headD []) j)) → J TM X 8 53 [some (aR 0), some (aI l), some (aI wo), some (aI (pcn nn wo : Nat)), some (aI (nn ^ pcn nn wo : Nat)), some (aI cnt), some (aI (way : Nat)), none] [] ν := by
    intro k
    induction k with
    | zero =>
      intro way cnt ν i1 ib hF hI
      obtain ⟨done, d1, d2, d3⟩ := hI
      have d1 : mSel μ l wo = done := by rw [d1]; exact List.append_nil done
      refine J.iload hG dX7_ordersOf_53 rfl ?_
      refine J.iload hG dX7_ordersOf_55 rfl ?_
      refine J.icmp_ge hG 115 dX7_ordersOf_57 rfl (fun h57 => ?_) (fun h57 => absurd h57 (by omega))
      refine J.iload hG dX7_ordersOf_115 rfl ?_
      refine J.iret hG dX7_ordersOf_117 ?_
      rw [hX]; dsimp only
      exact ⟨by rw [d2, d1], hF, fun hs => d3 (by rw [← d1]; exact hs)⟩
    | succ k ih =>
      intro way cnt ν i1 ib hF hI
      obtain ⟨done, d1, d2, d3⟩ := hI
      have ih0 := ih
      clear ih
      have ew : ((way : Nat) : Int) + 1 = ((way + 1 : Nat) : Int) := by omega
      refine J.iload hG dX7_ordersOf_53 rfl ?_
      refine J.iload hG dX7_ordersOf_55 rfl ?_
      refine J.icmp_ge hG 115 dX7_ordersOf_57 rfl (fun h57 => absurd h57 (by omega)) (fun h57 => ?_)
      refine J.aload_n hG dX7_ordersOf_60 rfl rfl ?_
      refine J.iload_n hG dX7_ordersOf_61 rfl rfl ?_
      refine J.iload hG dX7_ordersOf_62 rfl ?_
      refine J.iload_n hG dX7_ordersOf_64 rfl rfl ?_
      refine J.iload_n hG dX7_ordersOf_65 rfl rfl ?_
      refine J.callV hG (X7_isOrder _ (MB_frp hB hF) (MPn_frp hP hF) l way (pcn nn wo) nn wo (by rw [hF 0 (by decide) (by decide) (by decide)]; exact hl) (by rw [hF 0 (by decide) (by decide) (by decide)]; exact hn) rfl hw (by omega)) ok_X7_isOrder ml_X7_221 rfl rfl rfl rfl (Nat.le_of_ble_eq_true rfl) ⟨Nat.le_of_ble_eq_true rfl, Nat.le_of_ble_eq_true rfl⟩ dX7_ordersOf_66 rfl (fun r1 ν1 hp1 => ?_)
      obtain ⟨rfl, hO, hrow⟩ := hp1
      rw [mSty_frp hF]
      have hF1 : FrP μ ν1 := FrP_o hF hO
      refine J.ifb_eq hG 109 dX7_ordersOf_69 rfl (fun h69 => ?_) (fun h69 => ?_)
      · refine J.iinc hG dX7_ordersOf_109 (Nat.le_of_ble_eq_true rfl) rfl (fun _ => (by omega)) ?_
        refine J.goto hG 53 dX7_ordersOf_112 rfl ?_
        rw [selG_no h69] at d1
        rw [ew]
        exact ih0 (way + 1) cnt ν1 (by omega) (by omega) hF1 ⟨done, d1, d2, fun hd j a b => by rw [hO 18 (by decide) (by decide)]; exact d3 hd j a b⟩
      · refine J.iconst hG dX7_ordersOf_72 (by decide) ?_
        refine J.istore hG dX7_ordersOf_73 (Nat.le_of_ble_eq_true rfl) ?_
        have hsel := h69
        rw [selG_yes hsel] at d1
        by_cases hc : cnt = 0
        · subst hc
          have hdn : done = [] := List.eq_nil_of_length_eq_zero (by omega)
          subst hdn
          have fin1 : ∀ (j : Int) (ν2 : Mem), FrP μ ν2 → (∀ z : Int, 0 ≤ z → z < (pcn nn wo : Nat) → ν2 18 z = ν1 17 z) → J TM X 8 106 [some (aR 0), some (aI l), some (aI wo), some (aI (pcn nn wo : Nat)), some (aI (nn ^ pcn nn wo : Nat)), some (aI 0), some (aI (way : Nat)), some (aI j)] [] ν2 := by
            intro j ν2 hF2 hA2
            refine J.iinc hG dX7_ordersOf_106 (Nat.le_of_ble_eq_true rfl) rfl (fun _ => (by omega)) ?_
            refine J.iinc hG dX7_ordersOf_109 (Nat.le_of_ble_eq_true rfl) rfl (fun _ => (by omega)) ?_
            refine J.goto hG 53 dX7_ordersOf_112 rfl ?_
            rw [ew]
            exact J.drop 7 (ih0 (way + 1) _ ν2 (by omega) (by omega) hF2 ⟨[dgs nn (pcn nn wo) way], by rw [d1]; rfl, rfl, fun _ j a b => by rw [hA2 j a b, hrow j a b, d1]; rfl⟩)
          have lp3 : ∀ (k : Nat) (j : Int) (ν2 : Mem), 0 ≤ j → j + k = (pcn nn wo : Nat) → (FrP μ ν2) → (ν2 17 = ν1 17) → (∀ z : Int, 0 ≤ z → z < j → ν2 18 z = ν1 17 z) → J TM X 8 75 [some (aR 0), some (aI l), some (aI wo), some (aI (pcn nn wo : Nat)), some (aI (nn ^ pcn nn wo : Nat)), some (aI 0), some (aI (way : Nat)), some (aI j)] [] ν2 := by
            intro k
            induction k with
            | zero =>
              intro j ν2 i0 i1 hF h17 hA
              refine J.iload hG dX7_ordersOf_75 rfl ?_
              refine J.iload_n hG dX7_ordersOf_77 rfl rfl ?_
              refine J.icmp_ge hG 106 dX7_ordersOf_78 rfl (fun h78 => ?_) (fun h78 => absurd h78 (by omega))
              exact fin1 j ν2 hF (fun z a b => hA z a (by omega))
            | succ k ih =>
              intro j ν2 i0 i1 hF h17 hA
              refine J.iload hG dX7_ordersOf_75 rfl ?_
              refine J.iload_n hG dX7_ordersOf_77 rfl rfl ?_
              refine J.icmp_ge hG 106 dX7_ordersOf_78 rfl (fun h78 => absurd h78 (by omega)) (fun h78 => ?_)
              refine J.iload hG dX7_ordersOf_81 rfl ?_
              refine J.if_ne hG 106 dX7_ordersOf_83 rfl (fun h83 => absurd h83 (by omega)) (fun h83 => ?_)
              refine J.aload_n hG dX7_ordersOf_86 rfl rfl ?_
              refine J.getR hG ciX7 rfl 36 36 rfl (Nat.le_of_ble_eq_true rfl) rfl fl_X7_62 dX7_ordersOf_87 ?_
              refine J.iload hG dX7_ordersOf_90 rfl ?_
              refine J.aload_n hG dX7_ordersOf_92 rfl rfl ?_
              refine J.getR hG ciX7 rfl 35 35 rfl (Nat.le_of_ble_eq_true rfl) rfl fl_X7_59 dX7_ordersOf_93 ?_
              refine J.iload hG dX7_ordersOf_96 rfl ?_
              refine J.iald hG rfl (by omega) (by omega) dX7_ordersOf_98 ?_
              refine J.iast hG rfl (by omega) (by omega) dX7_ordersOf_99 ?_
              refine J.iinc hG dX7_ordersOf_100 (Nat.le_of_ble_eq_true rfl) rfl (fun _ => (by omega)) ?_
              refine J.goto hG 75 dX7_ordersOf_103 rfl ?_
              refine ih (j + 1) _ (by omega) (by omega) (FrP_up hF _ _) (by rw [up_cell _ _ _ (by decide)]; exact h17) (fun z a b => ?_)
              by_cases hz : z = j
              · rw [hz, up_self, h17]
              · rw [up_ne _ (fun w => hz w.2)]
                exact hA z a (by omega)
          exact lp3 (pcn nn wo) 0 ν1 (Int.le_refl _) (by omega) hF1 rfl (fun z a b => absurd b (by omega))
        · have fin2 : J TM X 8 106 [some (aR 0), some (aI l), some (aI wo), some (aI (pcn nn wo : Nat)), some (aI (nn ^ pcn nn wo : Nat)), some (aI cnt), some (aI (way : Nat)), some (aI 0)] [] ν1 := by
            refine J.iinc hG dX7_ordersOf_106 (Nat.le_of_ble_eq_true rfl) rfl (fun _ => (by omega)) ?_
            refine J.iinc hG dX7_ordersOf_109 (Nat.le_of_ble_eq_true rfl) rfl (fun _ => (by omega)) ?_
            refine J.goto hG 53 dX7_ordersOf_112 rfl ?_
            rw [ew]
            exact J.drop 7 (ih0 (way + 1) _ ν1 (by omega) (by omega) hF1 ⟨done ++ [dgs nn (pcn nn wo) way], by rw [d1, List.append_assoc]; rfl, by rw [List.length_append, d2]; rfl, fun _ j a b => by rw [hO 18 (by decide) (by decide)]; exact d3 (fun w => hc (by rw [d2, w]; rfl)) j a b⟩)
          refine J.iload hG dX7_ordersOf_75 rfl ?_
          refine J.iload_n hG dX7_ordersOf_77 rfl rfl ?_
          refine J.icmp_ge hG 106 dX7_ordersOf_78 rfl (fun h78 => ?_) (fun h78 => ?_)
          · exact fin2
          · refine J.iload hG dX7_ordersOf_81 rfl ?_
            refine J.if_ne hG 106 dX7_ordersOf_83 rfl (fun h83 => ?_) (fun h83 => absurd h83 (by omega))
            exact fin2
  have lp1 : ∀ (k : Nat) (i : Int), 0 ≤ i → i + k = (pcn nn wo : Nat) → J TM X 8 26 [some (aR 0), some (aI l), some (aI wo), some (aI (pcn nn wo : Nat)), some (aI (nn ^ i.toNat : Nat)), some (aI i), none, none] [] μ := by
    intro k
    induction k with
    | zero =>
      intro i  i0 i1 
      have ei : i.toNat = pcn nn wo := by omega
      rw [ei]
      refine J.iload hG dX7_ordersOf_26 rfl ?_
      refine J.iload_n hG dX7_ordersOf_28 rfl rfl ?_
      refine J.icmp_ge hG 47 dX7_ordersOf_29 rfl (fun h29 => ?_) (fun h29 => absurd h29 (by omega))
      refine J.iconst hG dX7_ordersOf_47 (by decide) ?_
      refine J.istore hG dX7_ordersOf_48 (Nat.le_of_ble_eq_true rfl) ?_
      refine J.iconst hG dX7_ordersOf_50 (by decide) ?_
      refine J.istore hG dX7_ordersOf_51 (Nat.le_of_ble_eq_true rfl) ?_
      exact lp (nn ^ pcn nn wo) 0 0 μ (by omega) (by omega) (fun _ _ _ _ => rfl) ⟨[], by rw [selG_all μ l wo nn hn]; rfl, rfl, fun w => absurd rfl w⟩
    | succ k ih =>
      intro i  i0 i1 
      have ei : (i + 1).toNat = i.toNat + 1 := by omega
      have ep : ((nn ^ i.toNat : Nat) : Int) * (nn : Int) = ((nn ^ (i + 1).toNat : Nat) : Int) := by rw [ei, Nat.pow_succ]; exact (Int.natCast_mul _ _).symm
      have pb : nn ^ (i + 1).toNat ≤ 3125 := Nat.le_trans (Nat.pow_le_pow_left (show nn ≤ 5 by omega) _) (Nat.le_trans (Nat.pow_le_pow_right (by decide) (show (i + 1).toNat ≤ 5 by omega)) (by decide))
      refine J.iload hG dX7_ordersOf_26 rfl ?_
      refine J.iload_n hG dX7_ordersOf_28 rfl rfl ?_
      refine J.icmp_ge hG 47 dX7_ordersOf_29 rfl (fun h29 => absurd h29 (by omega)) (fun h29 => ?_)
      refine J.iload hG dX7_ordersOf_32 rfl ?_
      refine J.aload_n hG dX7_ordersOf_34 rfl rfl ?_
      refine J.getI hG ciX7 rfl 30 30 rfl (Nat.le_of_ble_eq_true rfl) rfl fl_X7_153 dX7_ordersOf_35 ?_
      refine J.imul hG dX7_ordersOf_38 (fun _ _ => (by rw [hn, ep]; omega)) ?_
      rw [hn, ep]
      refine J.istore hG dX7_ordersOf_39 (Nat.le_of_ble_eq_true rfl) ?_
      refine J.iinc hG dX7_ordersOf_41 (Nat.le_of_ble_eq_true rfl) rfl (fun _ => (by omega)) ?_
      refine J.goto hG 26 dX7_ordersOf_44 rfl ?_
      exact ih (i + 1) (by omega) (by omega)
  refine J.iload_n hG dX7_ordersOf_0 rfl rfl ?_
  refine J.bipush hG dX7_ordersOf_1 (by decide) (by decide) ?_
  refine J.icmp_ne hG 13 dX7_ordersOf_3 rfl (fun h3 => ?_) (fun h3 => ?_)
  · refine J.aload_n hG dX7_ordersOf_13 rfl rfl ?_
    refine J.getI hG ciX7 rfl 30 30 rfl (Nat.le_of_ble_eq_true rfl) rfl fl_X7_153 dX7_ordersOf_14 ?_
    refine J.iconst hG dX7_ordersOf_17 (by decide) ?_
    refine J.isub hG dX7_ordersOf_18 (fun _ _ => (by omega)) ?_
    have em : μ 0 30 - 1 = ((pcn nn wo : Nat) : Int) := by unfold pcn; rw [if_neg (by omega)]; omega
    rw [em]
    refine J.istore_n hG dX7_ordersOf_19 rfl (Nat.le_of_ble_eq_true rfl) ?_
    refine J.iconst hG dX7_ordersOf_20 (by decide) ?_
    refine J.istore hG dX7_ordersOf_21 (Nat.le_of_ble_eq_true rfl) ?_
    refine J.iconst hG dX7_ordersOf_23 (by decide) ?_
    refine J.istore hG dX7_ordersOf_24 (Nat.le_of_ble_eq_true rfl) ?_
    exact lp1 (pcn nn wo) 0 (Int.le_refl _) (by omega)
  · refine J.aload_n hG dX7_ordersOf_6 rfl rfl ?_
    refine J.getI hG ciX7 rfl 30 30 rfl (Nat.le_of_ble_eq_true rfl) rfl fl_X7_153 dX7_ordersOf_7 ?_
    refine J.goto hG 19 dX7_ordersOf_10 rfl ?_
    have em : μ 0 30 = ((pcn nn wo : Nat) : Int) := by unfold pcn; rw [if_pos (by omega)]; omega
    rw [em]
    refine J.istore_n hG dX7_ordersOf_19 rfl (Nat.le_of_ble_eq_true rfl) ?_
    refine J.iconst hG dX7_ordersOf_20 (by decide) ?_
    refine J.istore hG dX7_ordersOf_21 (Nat.le_of_ble_eq_true rfl) ?_
    refine J.iconst hG dX7_ordersOf_23 (by decide) ?_
    refine J.istore hG dX7_ordersOf_24 (Nat.le_of_ble_eq_true rfl) ?_
    exact lp1 (pcn nn wo) 0 (Int.le_refl _) (by omega)

set_option maxRecDepth 100000 in
set_option maxHeartbeats 4000000 in
theorem X7_orders (μ0 μ : Mem) (hμ : μ = th μ0) (hB : MB μ) (hP : MPn μ) (l i : Int) : CT TM md_X7_orders [aR 0, aI l, aI i] μ0 (fun rv μ1 => FrP μ μ1 ∧ rv = some (aI (if (0 ≤ l ∧ l < μ 0 15) ∧ -1 ≤ i then ordA (mSel μ l (-9)) (μ 0 30) i else -1))) := by
  refine CT.of (Nat.le_of_ble_eq_true rfl) (by decide) rfl (Nat.le_of_ble_eq_true rfl) (fun X hG hX => ?_)
  have hG : G TM X RX7 cX7_orders 4 6 148 (some .int) := hG
  show J TM X 4 0 [some (aR 0), some (aI l), some (aI i), none] [] μ0
  refine J.aload_n hG dX7_orders_0 rfl rfl ?_
  refine J.iconst hG dX7_orders_1 (by decide) ?_
  refine J.putI hG ciX7 rfl 0 0 rfl (Nat.le_of_ble_eq_true rfl) rfl fl_X7_75 rfl rfl dX7_orders_2 ?_
  show J TM X 4 5 [some (aR 0), some (aI l), some (aI i), none] [] (th μ0)
  rw [← hμ]
  have hB2 := hB
  obtain ⟨h1, h2, h3, h4, h5, h6⟩ := hB2
  have hP1 := hP.1
  obtain ⟨nn, hn⟩ : ∃ nn : Nat, μ 0 30 = nn := ⟨(μ 0 30).toNat, by omega⟩
  refine J.aload_n hG dX7_orders_5 rfl rfl ?_
  refine J.iload_n hG dX7_orders_6 rfl rfl ?_
  refine J.callV hG (X7_isLife _ _ (by omega)) ok_X7_isLife ml_X7_171 rfl rfl rfl rfl (Nat.le_of_ble_eq_true rfl) ⟨Nat.le_of_ble_eq_true rfl, Nat.le_of_ble_eq_true rfl⟩ dX7_orders_7 rfl (fun r1 μ1 hp1 => ?_)
  obtain ⟨rfl, rfl⟩ := hp1
  refine J.ifb_eq hG 18 dX7_orders_10 rfl (fun h10 => ?_) (fun h10 => ?_)
  · refine J.iconst hG dX7_orders_18 (by decide) ?_
    refine J.iret hG dX7_orders_19 ?_
    rw [hX]; dsimp only
    exact ⟨fun _ _ _ _ => rfl, by rw [if_neg (by omega)]⟩
  · refine J.iload_n hG dX7_orders_13 rfl rfl ?_
    refine J.iconst hG dX7_orders_14 (by decide) ?_
    refine J.icmp_ge hG 20 dX7_orders_15 rfl (fun h15 => ?_) (fun h15 => ?_)
    · refine J.aload_n hG dX7_orders_20 rfl rfl ?_
      refine J.iload_n hG dX7_orders_21 rfl rfl ?_
      refine J.bipush hG dX7_orders_22 (by decide) (by decide) ?_
      refine J.callV hG (X7_ordersOf _ hB hP l nn (-9) (by omega) hn (Or.inl rfl)) ok_X7_ordersOf ml_X7_225 rfl rfl rfl rfl (Nat.le_of_ble_eq_true rfl) ⟨Nat.le_of_ble_eq_true rfl, Nat.le_of_ble_eq_true rfl⟩ dX7_orders_24 rfl (fun r1 ν hp1 => ?_)
      obtain ⟨rfl, hF, hS⟩ := hp1
      have e30 : ν 0 30 = μ 0 30 := by rw [hF 0 (by decide) (by decide) (by decide)]
      refine J.istore_n hG dX7_orders_27 rfl (Nat.le_of_ble_eq_true rfl) ?_
      refine J.iload_n hG dX7_orders_28 rfl rfl ?_
      refine J.if_ge hG 34 dX7_orders_29 rfl (fun h29 => ?_) (fun h29 => ?_)
      · refine J.iload_n hG dX7_orders_34 rfl rfl ?_
        refine J.if_ne hG 43 dX7_orders_35 rfl (fun h35 => ?_) (fun h35 => ?_)
        · refine J.iload_n hG dX7_orders_43 rfl rfl ?_
          refine J.aload_n hG dX7_orders_44 rfl rfl ?_
          refine J.getI hG ciX7 rfl 30 30 rfl (Nat.le_of_ble_eq_true rfl) rfl fl_X7_153 dX7_orders_45 ?_
          refine J.icmp_ge hG 60 dX7_orders_48 rfl (fun h48 => ?_) (fun h48 => ?_)
          · refine J.bipush hG dX7_orders_60 (by decide) (by decide) ?_
            refine J.iret hG dX7_orders_62 ?_
            rw [hX]; dsimp only
            exact ⟨hF, by rw [if_pos (by omega), ordA, if_neg (by omega), if_neg (by omega), if_neg (by omega)]⟩
          · refine J.aload_n hG dX7_orders_51 rfl rfl ?_
            refine J.getR hG ciX7 rfl 36 36 rfl (Nat.le_of_ble_eq_true rfl) rfl fl_X7_62 dX7_orders_52 ?_
            refine J.iload_n hG dX7_orders_55 rfl rfl ?_
            refine J.iald hG rfl (by omega) (by omega) dX7_orders_56 ?_
            refine J.goto hG 62 dX7_orders_57 rfl ?_
            refine J.iret hG dX7_orders_62 ?_
            rw [hX]; dsimp only
            refine ⟨hF, ?_⟩
            rw [if_pos (by omega), ordA, if_neg (by omega), if_neg (by omega), if_pos (by omega), hS (fun w => h35 (by rw [w]; rfl)) i (by omega) (by unfold pcn; rw [if_pos rfl]; omega)]
        · refine J.bipush hG dX7_orders_38 (by decide) (by decide) ?_
          refine J.goto hG 62 dX7_orders_40 rfl ?_
          refine J.iret hG dX7_orders_62 ?_
          rw [hX]; dsimp only
          exact ⟨hF, by rw [if_pos (by omega), ordA, if_neg (by omega), if_pos (by omega)]⟩
      · refine J.iload_n hG dX7_orders_32 rfl rfl ?_
        refine J.iret hG dX7_orders_33 ?_
        rw [hX]; dsimp only
        exact ⟨hF, by rw [if_pos (by omega), ordA, if_pos (by omega)]⟩
    · refine J.iconst hG dX7_orders_18 (by decide) ?_
      refine J.iret hG dX7_orders_19 ?_
      rw [hX]; dsimp only
      exact ⟨fun _ _ _ _ => rfl, by rw [if_neg (by omega)]⟩

set_option maxRecDepth 100000 in
set_option maxHeartbeats 4000000 in
theorem X7_bars (μ0 μ : Mem) (hμ : μ = th μ0) (hB : MB μ) (hP : MPn μ) (l : Int) : CT TM md_X7_bars [aR 0, aI l] μ0 (fun rv μ1 => FrP μ μ1 ∧ rv = some (aI (if 0 ≤ l ∧ l < μ 0 15 then barA (fun k => (mSel μ l k).length) (μ 0 30) else -1))) := by
  refine CT.of (Nat.le_of_ble_eq_true rfl) (by decide) rfl (Nat.le_of_ble_eq_true rfl) (fun X hG hX => ?_)
  have hG : G TM X RX7 cX7_bars 3 6 148 (some .int) := hG
  show J TM X 3 0 [some (aR 0), some (aI l), none] [] μ0
  refine J.aload_n hG dX7_bars_0 rfl rfl ?_
  refine J.iconst hG dX7_bars_1 (by decide) ?_
  refine J.putI hG ciX7 rfl 0 0 rfl (Nat.le_of_ble_eq_true rfl) rfl fl_X7_75 rfl rfl dX7_bars_2 ?_
  show J TM X 3 5 [some (aR 0), some (aI l), none] [] (th μ0)
  rw [← hμ]
  have hB2 := hB
  obtain ⟨h1, h2, h3, h4, h5, h6⟩ := hB2
  have hP1 := hP.1
  obtain ⟨nn, hn⟩ : ∃ nn : Nat, μ 0 30 = nn := ⟨(μ 0 30).toNat, by omega⟩
  refine J.aload_n hG dX7_bars_5 rfl rfl ?_
  refine J.iload_n hG dX7_bars_6 rfl rfl ?_
  refine J.callV hG (X7_isLife _ _ (by omega)) ok_X7_isLife ml_X7_171 rfl rfl rfl rfl (Nat.le_of_ble_eq_true rfl) ⟨Nat.le_of_ble_eq_true rfl, Nat.le_of_ble_eq_true rfl⟩ dX7_bars_7 rfl (fun r1 μ1 hp1 => ?_)
  obtain ⟨rfl, rfl⟩ := hp1
  refine J.ifb_ne hG 15 dX7_bars_10 rfl (fun h10 => ?_) (fun h10 => ?_)
  · refine J.aload_n hG dX7_bars_15 rfl rfl ?_
    refine J.iload_n hG dX7_bars_16 rfl rfl ?_
    refine J.bipush hG dX7_bars_17 (by decide) (by decide) ?_
    refine J.callV hG (X7_ordersOf _ hB hP l nn (-9) (by omega) hn (Or.inl rfl)) ok_X7_ordersOf ml_X7_225 rfl rfl rfl rfl (Nat.le_of_ble_eq_true rfl) ⟨Nat.le_of_ble_eq_true rfl, Nat.le_of_ble_eq_true rfl⟩ dX7_bars_19 rfl (fun r1 ν hp1 => ?_)
    obtain ⟨rfl, hF, hS⟩ := hp1
    refine J.if_le hG 28 dX7_bars_22 rfl (fun h22 => ?_) (fun h22 => ?_)
    · refine J.iconst hG dX7_bars_28 (by decide) ?_
      refine J.istore_n hG dX7_bars_29 rfl (Nat.le_of_ble_eq_true rfl) ?_
      have hl : 0 ≤ l ∧ l < μ 0 15 := by omega
      have h20 : ¬ 0 < ((mSel μ l (-9)).length : Int) := by omega
      have lp : ∀ (k : Nat) (i : Int) (ν : Mem), 0 ≤ i → i + k = μ 0 30 → (FrP μ ν) → (fs3 (fun k => if 0 < ((mSel μ l k).length : Int) then 3 else 0) k i = fs3 (fun k => if 0 < ((mSel μ l k).length : Int) then 3 else 0) (μ 0 30).toNat 0) → J TM X 3 30 [some (aR 0), some (aI l), some (aI i)] [] ν := by
        intro k
        induction k with
        | zero =>
          intro i ν i0 i1 hF i2
          have e0 := hF 0 (by decide) (by decide) (by decide)
          have e30 : ν 0 30 = μ 0 30 := by rw [e0]
          have e15 : ν 0 15 = μ 0 15 := by rw [e0]
          simp only [fs3] at i2
          refine J.iload_n hG dX7_bars_30 rfl rfl ?_
          refine J.aload_n hG dX7_bars_31 rfl rfl ?_
          refine J.getI hG ciX7 rfl 30 30 rfl (Nat.le_of_ble_eq_true rfl) rfl fl_X7_153 dX7_bars_32 ?_
          refine J.icmp_ge hG 55 dX7_bars_35 rfl (fun h35 => ?_) (fun h35 => absurd h35 (by omega))
          refine J.bipush hG dX7_bars_55 (by decide) (by decide) ?_
          refine J.iret hG dX7_bars_57 ?_
          rw [hX]; dsimp only
          exact ⟨hF, by rw [if_pos hl, barA, if_neg h20, ← i2]⟩
        | succ k ih =>
          intro i ν i0 i1 hF i2
          have e0 := hF 0 (by decide) (by decide) (by decide)
          have e30 : ν 0 30 = μ 0 30 := by rw [e0]
          have e15 : ν 0 15 = μ 0 15 := by rw [e0]
          rw [fs3] at i2
          refine J.iload_n hG dX7_bars_30 rfl rfl ?_
          refine J.aload_n hG dX7_bars_31 rfl rfl ?_
          refine J.getI hG ciX7 rfl 30 30 rfl (Nat.le_of_ble_eq_true rfl) rfl fl_X7_153 dX7_bars_32 ?_
          refine J.icmp_ge hG 55 dX7_bars_35 rfl (fun h35 => absurd h35 (by omega)) (fun h35 => ?_)
          refine J.aload_n hG dX7_bars_38 rfl rfl ?_
          refine J.iload_n hG dX7_bars_39 rfl rfl ?_
          refine J.iload_n hG dX7_bars_40 rfl rfl ?_
          refine J.callV hG (X7_ordersOf _ (MB_frp hB hF) (MPn_frp hP hF) l nn i (by omega) (by omega) (by omega)) ok_X7_ordersOf ml_X7_225 rfl rfl rfl rfl (Nat.le_of_ble_eq_true rfl) ⟨Nat.le_of_ble_eq_true rfl, Nat.le_of_ble_eq_true rfl⟩ dX7_bars_41 rfl (fun r1 ν1 hp1 => ?_)
          obtain ⟨rfl, hF2, hS2⟩ := hp1
          rw [mSel_frp hF]
          refine J.if_le hG 49 dX7_bars_44 rfl (fun h44 => ?_) (fun h44 => ?_)
          · refine J.iinc hG dX7_bars_49 (Nat.le_of_ble_eq_true rfl) rfl (fun _ => (by omega)) ?_
            refine J.goto hG 30 dX7_bars_52 rfl ?_
            have e : ¬ (if 0 < ((mSel μ l i).length : Int) then (3 : Int) else 0) = 3 := by rw [if_neg (by omega)]; omega
            rw [if_neg e] at i2
            exact ih (i + 1) _ (by omega) (by omega) (FrP_tr hF hF2) i2
          · refine J.iload_n hG dX7_bars_47 rfl rfl ?_
            refine J.iret hG dX7_bars_48 ?_
            rw [hX]; dsimp only
            have e : (if 0 < ((mSel μ l i).length : Int) then (3 : Int) else 0) = 3 := if_pos (by omega)
            rw [if_pos e] at i2
            exact ⟨FrP_tr hF hF2, by rw [if_pos hl, barA, if_neg h20, ← i2]⟩
      exact lp (μ 0 30).toNat 0 _ (Int.le_refl _) (by omega) hF rfl
    · refine J.bipush hG dX7_bars_25 (by decide) (by decide) ?_
      refine J.iret hG dX7_bars_27 ?_
      rw [hX]; dsimp only
      exact ⟨hF, by rw [if_pos (by omega), barA, if_pos (by omega)]⟩
  · refine J.iconst hG dX7_bars_13 (by decide) ?_
    refine J.iret hG dX7_bars_14 ?_
    rw [hX]; dsimp only
    exact ⟨fun _ _ _ _ => rfl, by rw [if_neg (by omega)]⟩


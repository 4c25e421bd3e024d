def XPn (μ : Mem) : Prop := (0 ≤ μ 65 0 ∧ μ 65 0 ≤ 5) ∧ ∀ i : Int, 0 ≤ i → i < μ 65 0 → (0 ≤ μ 66 i ∧ μ 66 i < μ 13 0) ∧ (-9 ≤ μ 67 i ∧ μ 67 i ≤ 9)
def upf (g : Int → Int) (a v : Int) : Int → Int := fun z => if z = a then v else g z
/-- whether a life is never at no end behind each of these changes -/
def sty (E : Int → Int → Int) (rg : Int → Int) (ns : Int) (pS pB : Int → Int) : List Int → (Int → Int) → Int
  | [], _ => 1
  | c :: cs, g => if fs3 (fun s => E s (upf g (pS c) (cl (rg (pS c)) (g (pS c) + pB c)) s)) ns.toNat 0 = -9 then sty E rg ns pS pB cs (upf g (pS c) (cl (rg (pS c)) (g (pS c) + pB c))) else 0
theorem sty_01 (E : Int → Int → Int) (rg : Int → Int) (ns : Int) (pS pB : Int → Int) : ∀ (l : List Int) (g : Int → Int), sty E rg ns pS pB l g = 1 ∨ sty E rg ns pS pB l g = 0
  | [], _ => Or.inl rfl
  | c :: cs, g => by
    unfold sty
    split
    · exact sty_01 E rg ns pS pB cs _
    · exact Or.inr rfl
def xEs (μ : Mem) (s v : Int) : Int := EB (μ 19 s) (μ 20 s) (μ 14 s) v
def xSty (μ : Mem) (l : Int) (p : List Int) : Int := sty (xEs μ) (μ 14) (μ 13 0) (μ 66) (μ 67) p (fun s => μ 18 (l * 4 + s))
def xSel (μ : Mem) (l wo : Int) : List (List Int) := (perms (μ 65 0).toNat wo).filter (fun p => xSty μ l p == 1)
theorem xSty_of {μ ν : Mem} (h : XF3 μ ν) (l : Int) (p : List Int) : xSty ν l p = xSty μ l p := by
  have e : xEs ν = xEs μ := by
    funext s v
    unfold xEs
    rw [h 19 (by omega), h 20 (by omega), h 14 (by omega)]
  unfold xSty
  rw [e, h 14 (by omega), h 13 (by omega), h 66 (by omega), h 67 (by omega), h 18 (by omega)]
theorem fOf_cons (c : Int) (cs : List Int) (j : Int) (h : 0 ≤ j) : fOf (c :: cs) (j + 1) = fOf cs j := by
  unfold fOf
  rw [show (j + 1).toNat = j.toNat + 1 by omega]
  rfl
theorem XPn_of {μ ν : Mem} (h : XF3 μ ν) (hp : XPn μ) : XPn ν := by
  unfold XPn
  rw [h 65 (by omega), h 66 (by omega), h 67 (by omega), h 13 (by omega)]
  exact hp

set_option maxRecDepth 100000 in
set_option maxHeartbeats 4000000 in
theorem X6_isUnlawfulMeanwhile (μ : Mem) (hB : XB μ) (hv : ∀ s : Int, 0 ≤ s → s < μ 13 0 → 0 ≤ μ 70 s ∧ μ 70 s ≤ μ 14 s) : CT TX md_X6_isUnlawfulMeanwhile [aR 0] μ (fun rv μ1 => rv = some (aI (if ¬ fs3 (fun s => xEs μ s (μ 70 s)) (μ 13 0).toNat 0 = -9 then 1 else 0)) ∧ μ = μ1) := by
  refine CT.of (Nat.le_of_ble_eq_true rfl) (by decide) rfl (Nat.le_of_ble_eq_true rfl) (fun X hG hX => ?_)
  have hG : G TX X RX6 cX6_isUnlawfulMeanwhile 2 2 46 (some .boolean) := hG
  show J TX X 2 0 [some (aR 0), none] [] μ
  have hB2 := hB
  obtain ⟨h1, h2, h3, h4, h5, h6⟩ := hB2
  have lp : ∀ (k : Nat) (s : Int), 0 ≤ s → s + k = μ 13 0 → (fs3 (fun s => xEs μ s (μ 70 s)) k s = fs3 (fun s => xEs μ s (μ 70 s)) (μ 13 0).toNat 0) → J TX X 2 2 [some (aR 0), some (aI s)] [] μ := by
    intro k
    induction k with
    | zero =>
      intro s  i0 i1 i2
      simp only [fs3] at i2
      refine J.iload_n hG dX6_isUnlawfulMeanwhile_2 rfl rfl ?_
      refine J.aload_n hG dX6_isUnlawfulMeanwhile_3 rfl rfl ?_
      refine J.getR hG ciX6 rfl 1 1 rfl (Nat.le_of_ble_eq_true rfl) rfl fl_X6_19 dX6_isUnlawfulMeanwhile_4 ?_
      refine J.getI hG ciX1 rfl 0 0 rfl (Nat.le_of_ble_eq_true rfl) rfl fl_X6_222 dX6_isUnlawfulMeanwhile_7 ?_
      refine J.icmp_ge hG 39 dX6_isUnlawfulMeanwhile_10 rfl (fun h10 => ?_) (fun h10 => absurd h10 (by omega))
      refine J.iconst hG dX6_isUnlawfulMeanwhile_39 (by decide) ?_
      refine J.zret hG (by first | exact Or.inl rfl | exact Or.inr rfl | assumption | (split <;> first | exact Or.inl rfl | exact Or.inr rfl)) dX6_isUnlawfulMeanwhile_40 ?_
      rw [hX]; dsimp only
      exact ⟨by rw [← i2, if_neg (fun w => w rfl)], rfl⟩
    | succ k ih =>
      intro s  i0 i1 i2
      rw [fs3] at i2
      have q5 := h5 s (by omega) (by omega)
      have qv := hv s (by omega) (by omega)
      refine J.iload_n hG dX6_isUnlawfulMeanwhile_2 rfl rfl ?_
      refine J.aload_n hG dX6_isUnlawfulMeanwhile_3 rfl rfl ?_
      refine J.getR hG ciX6 rfl 1 1 rfl (Nat.le_of_ble_eq_true rfl) rfl fl_X6_19 dX6_isUnlawfulMeanwhile_4 ?_
      refine J.getI hG ciX1 rfl 0 0 rfl (Nat.le_of_ble_eq_true rfl) rfl fl_X6_222 dX6_isUnlawfulMeanwhile_7 ?_
      refine J.icmp_ge hG 39 dX6_isUnlawfulMeanwhile_10 rfl (fun h10 => absurd h10 (by omega)) (fun h10 => ?_)
      refine J.aload_n hG dX6_isUnlawfulMeanwhile_13 rfl rfl ?_
      refine J.iload_n hG dX6_isUnlawfulMeanwhile_14 rfl rfl ?_
      refine J.aload_n hG dX6_isUnlawfulMeanwhile_15 rfl rfl ?_
      refine J.getR hG ciX6 rfl 6 6 rfl (Nat.le_of_ble_eq_true rfl) rfl fl_X6_48 dX6_isUnlawfulMeanwhile_16 ?_
      refine J.getR hG ciX0 rfl 5 5 rfl (Nat.le_of_ble_eq_true rfl) rfl fl_X6_285 dX6_isUnlawfulMeanwhile_19 ?_
      refine J.iload_n hG dX6_isUnlawfulMeanwhile_22 rfl rfl ?_
      refine J.iald hG rfl (by omega) (by omega) dX6_isUnlawfulMeanwhile_23 ?_
      refine J.callV hG (X6_endOf _ _ _ (by omega) (by omega)) ok_X6_endOf ml_X6_135 rfl rfl rfl rfl (Nat.le_of_ble_eq_true rfl) ⟨Nat.le_of_ble_eq_true rfl, Nat.le_of_ble_eq_true rfl⟩ dX6_isUnlawfulMeanwhile_24 rfl (fun r1 μ1 hp1 => ?_)
      obtain ⟨rfl, rfl⟩ := hp1
      refine J.iconst hG dX6_isUnlawfulMeanwhile_27 (by decide) ?_
      refine J.icmp_ne hG 33 dX6_isUnlawfulMeanwhile_28 rfl (fun h28 => ?_) (fun h28 => ?_)
      · refine J.iinc hG dX6_isUnlawfulMeanwhile_33 (Nat.le_of_ble_eq_true rfl) rfl (fun _ => (by omega)) ?_
        refine J.goto hG 2 dX6_isUnlawfulMeanwhile_36 rfl ?_
        rw [if_neg (show ¬ xEs μ s (μ 70 s) = 3 from h28)] at i2
        exact ih (s + 1) (by omega) (by omega) i2
      · refine J.iconst hG dX6_isUnlawfulMeanwhile_31 (by decide) ?_
        refine J.zret hG (by first | exact Or.inl rfl | exact Or.inr rfl | assumption | (split <;> first | exact Or.inl rfl | exact Or.inr rfl)) dX6_isUnlawfulMeanwhile_32 ?_
        rw [hX]; dsimp only
        rw [if_pos (show xEs μ s (μ 70 s) = 3 from h28)] at i2
        exact ⟨by rw [← i2, if_pos (by omega)], rfl⟩
  refine J.iconst hG dX6_isUnlawfulMeanwhile_0 (by decide) ?_
  refine J.istore_n hG dX6_isUnlawfulMeanwhile_1 rfl (Nat.le_of_ble_eq_true rfl) ?_
  exact lp (μ 13 0).toNat 0 (Int.le_refl _) (by omega) rfl

set_option maxRecDepth 100000 in
set_option maxHeartbeats 4000000 in
theorem X6_staysLawful (μ : Mem) (hB : XB μ) (hP : XPn μ) (l m : Int) (p : List Int) (hl : 0 ≤ l ∧ l < μ 13 1) (hm : m = p.length) (hm5 : m ≤ 5) (hp1 : Agr m (μ 68) (fOf p)) (hp2 : ∀ c ∈ p, 0 ≤ c ∧ c < μ 65 0) : CT TX md_X6_staysLawful [aR 0, aI l, aI m] μ (fun rv μ1 => rv = some (aI (if xSty μ l p = 1 then 1 else 0)) ∧ XFr 70 μ μ1) := by
  refine CT.of (Nat.le_of_ble_eq_true rfl) (by decide) rfl (Nat.le_of_ble_eq_true rfl) (fun X hG hX => ?_)
  have hG : G TX X RX6 cX6_staysLawful 6 3 67 (some .boolean) := hG
  show J TX X 6 0 [some (aR 0), some (aI l), some (aI m), none, none, none] [] μ
  have hB2 := hB
  obtain ⟨h1, h2, h3, h4, h5, h6⟩ := hB2
  have lp2 : ∀ (q : List Int) (i : Int) (ν : Mem) (g : Int → Int), 0 ≤ i → i + q.length = m → (∀ j : Int, 0 ≤ j → j < q.length → μ 68 (i + j) = fOf q j) → (∀ c ∈ q, 0 ≤ c ∧ c < μ 65 0) → XFr 70 μ ν → Agr (μ 13 0) (ν 70) g → (∀ s : Int, 0 ≤ s → s < μ 13 0 → 0 ≤ g s ∧ g s ≤ μ 14 s) → sty (xEs μ) (μ 14) (μ 13 0) (μ 66) (μ 67) q g = xSty μ l p → J TX X 6 43 [some (aR 0), some (aI l), some (aI m), some (aI i), none, none] [] ν := by
    intro q
    induction q with
    | nil =>
      intro i ν g i0 i1 iq ic hF hA hg i2
      simp only [List.length_nil] at i1
      rw [sty] at i2
      refine J.iload_n hG dX6_staysLawful_43 rfl rfl ?_
      refine J.iload_n hG dX6_staysLawful_44 rfl rfl ?_
      refine J.icmp_ge hG 129 dX6_staysLawful_45 rfl (fun h45 => ?_) (fun h45 => absurd h45 (by omega))
      refine J.iconst hG dX6_staysLawful_129 (by decide) ?_
      refine J.zret hG (by first | exact Or.inl rfl | exact Or.inr rfl | assumption | (split <;> first | exact Or.inl rfl | exact Or.inr rfl)) dX6_staysLawful_130 ?_
      rw [hX]; dsimp only
      exact ⟨by rw [← i2, if_pos rfl], hF⟩
    | cons c cs ih =>
      intro i ν g i0 i1 iq ic hF hA hg i2
      rw [List.length_cons] at i1 iq
      rw [sty] at i2
      have hc := ic c List.mem_cons_self
      have hP1 := hP.1
      have hpn := hP.2 c hc.1 hc.2
      have q5 := h5 (μ 66 c) hpn.1.1 hpn.1.2
      have hgc := hg (μ 66 c) hpn.1.1 hpn.1.2
      have hac := hA (μ 66 c) hpn.1.1 hpn.1.2
      have hi : μ 68 i = c := by
        have := iq 0 (by omega) (by omega)
        rw [Int.add_zero] at this
        rw [this]
        rfl
      have e13 : ν 13 = μ 13 := hF 13 (by decide)
      have e0 : ν 13 0 = μ 13 0 := by rw [e13]
      have e14 : ν 14 = μ 14 := hF 14 (by decide)
      have e66 : ν 66 = μ 66 := hF 66 (by decide)
      have e67 : ν 67 = μ 67 := hF 67 (by decide)
      have e68 : ν 68 = μ 68 := hF 68 (by decide)
      refine J.iload_n hG dX6_staysLawful_43 rfl rfl ?_
      refine J.iload_n hG dX6_staysLawful_44 rfl rfl ?_
      refine J.icmp_ge hG 129 dX6_staysLawful_45 rfl (fun h45 => absurd h45 (by omega)) (fun h45 => ?_)
      refine J.aload_n hG dX6_staysLawful_48 rfl rfl ?_
      refine J.getR hG ciX6 rfl 6 6 rfl (Nat.le_of_ble_eq_true rfl) rfl fl_X6_48 dX6_staysLawful_49 ?_
      refine J.getR hG ciX0 rfl 3 3 rfl (Nat.le_of_ble_eq_true rfl) rfl fl_X6_286 dX6_staysLawful_52 ?_
      refine J.iload_n hG dX6_staysLawful_55 rfl rfl ?_
      refine J.iald hG rfl (by omega) (by omega) dX6_staysLawful_56 ?_
      refine J.istore hG dX6_staysLawful_57 (Nat.le_of_ble_eq_true rfl) ?_
      refine J.aload_n hG dX6_staysLawful_59 rfl rfl ?_
      refine J.getR hG ciX6 rfl 6 6 rfl (Nat.le_of_ble_eq_true rfl) rfl fl_X6_48 dX6_staysLawful_60 ?_
      refine J.getR hG ciX0 rfl 1 1 rfl (Nat.le_of_ble_eq_true rfl) rfl fl_X6_289 dX6_staysLawful_63 ?_
      refine J.iload hG dX6_staysLawful_66 rfl ?_
      refine J.iald hG rfl (by rw [e68, hi]; omega) (by rw [e68, hi]; omega) dX6_staysLawful_68 ?_
      refine J.istore hG dX6_staysLawful_69 (Nat.le_of_ble_eq_true rfl) ?_
      refine J.aload_n hG dX6_staysLawful_71 rfl rfl ?_
      refine J.getR hG ciX6 rfl 6 6 rfl (Nat.le_of_ble_eq_true rfl) rfl fl_X6_48 dX6_staysLawful_72 ?_
      refine J.getR hG ciX0 rfl 5 5 rfl (Nat.le_of_ble_eq_true rfl) rfl fl_X6_285 dX6_staysLawful_75 ?_
      refine J.iload hG dX6_staysLawful_78 rfl ?_
      refine J.aload_n hG dX6_staysLawful_80 rfl rfl ?_
      refine J.getR hG ciX6 rfl 6 6 rfl (Nat.le_of_ble_eq_true rfl) rfl fl_X6_48 dX6_staysLawful_81 ?_
      refine J.getR hG ciX0 rfl 5 5 rfl (Nat.le_of_ble_eq_true rfl) rfl fl_X6_285 dX6_staysLawful_84 ?_
      refine J.iload hG dX6_staysLawful_87 rfl ?_
      refine J.iald hG rfl (by rw [e68, hi, e66]; omega) (by rw [e68, hi, e66]; omega) dX6_staysLawful_89 ?_
      refine J.aload_n hG dX6_staysLawful_90 rfl rfl ?_
      refine J.getR hG ciX6 rfl 6 6 rfl (Nat.le_of_ble_eq_true rfl) rfl fl_X6_48 dX6_staysLawful_91 ?_
      refine J.getR hG ciX0 rfl 2 2 rfl (Nat.le_of_ble_eq_true rfl) rfl fl_X6_291 dX6_staysLawful_94 ?_
      refine J.iload hG dX6_staysLawful_97 rfl ?_
      refine J.iald hG rfl (by rw [e68, hi]; omega) (by rw [e68, hi]; omega) dX6_staysLawful_99 ?_
      refine J.aload_n hG dX6_staysLawful_100 rfl rfl ?_
      refine J.getR hG ciX6 rfl 1 1 rfl (Nat.le_of_ble_eq_true rfl) rfl fl_X6_19 dX6_staysLawful_101 ?_
      refine J.getR hG ciX1 rfl 4 4 rfl (Nat.le_of_ble_eq_true rfl) rfl fl_X6_112 dX6_staysLawful_104 ?_
      refine J.iload hG dX6_staysLawful_107 rfl ?_
      refine J.iald hG rfl (by rw [e68, hi, e66]; omega) (by rw [e68, hi, e66]; omega) dX6_staysLawful_109 ?_
      refine J.callS hG (X6_moved _ _ _ _ (by rw [e68, hi, e66, e67, hac]; omega) (by rw [e68, hi, e66, e14]; omega)) ok_X6_moved ml_X6_153 rfl (Nat.le_of_ble_eq_true rfl) ⟨Nat.le_of_ble_eq_true rfl, Nat.le_of_ble_eq_true rfl⟩ dX6_staysLawful_110 rfl (fun r1 μ1 hp1 => ?_)
      obtain ⟨rfl, rfl⟩ := hp1
      rw [e68, hi, e66, e67, e14, hac]
      refine J.iast hG rfl (by omega) (by omega) dX6_staysLawful_113 ?_
      have hF2 := XFr_up hF (μ 66 c) (cl (μ 14 (μ 66 c)) (g (μ 66 c) + μ 67 c))
      have hA2 : Agr (μ 13 0) (up ν 70 (μ 66 c) (cl (μ 14 (μ 66 c)) (g (μ 66 c) + μ 67 c)) 70) (upf g (μ 66 c) (cl (μ 14 (μ 66 c)) (g (μ 66 c) + μ 67 c))) := Agr_up hA _ _
      have hg2 : ∀ s : Int, 0 ≤ s → s < μ 13 0 → 0 ≤ upf g (μ 66 c) (cl (μ 14 (μ 66 c)) (g (μ 66 c) + μ 67 c)) s ∧ upf g (μ 66 c) (cl (μ 14 (μ 66 c)) (g (μ 66 c) + μ 67 c)) s ≤ μ 14 s := fun s a b => by
        unfold upf
        split
        · rename_i w
          rw [w]
          exact cl_bound (by omega)
        · exact hg s a b
      have hv2 : ∀ s : Int, 0 ≤ s → s < up ν 70 (μ 66 c) (cl (μ 14 (μ 66 c)) (g (μ 66 c) + μ 67 c)) 13 0 → 0 ≤ up ν 70 (μ 66 c) (cl (μ 14 (μ 66 c)) (g (μ 66 c) + μ 67 c)) 70 s ∧ up ν 70 (μ 66 c) (cl (μ 14 (μ 66 c)) (g (μ 66 c) + μ 67 c)) 70 s ≤ up ν 70 (μ 66 c) (cl (μ 14 (μ 66 c)) (g (μ 66 c) + μ 67 c)) 14 s := fun s a b => by
        rw [hF2 13 (by decide)] at b
        rw [hF2 14 (by decide), hA2 s a b]
        exact hg2 s a b
      have hsame : fs3 (fun s => xEs (up ν 70 (μ 66 c) (cl (μ 14 (μ 66 c)) (g (μ 66 c) + μ 67 c))) s (up ν 70 (μ 66 c) (cl (μ 14 (μ 66 c)) (g (μ 66 c) + μ 67 c)) 70 s)) (up ν 70 (μ 66 c) (cl (μ 14 (μ 66 c)) (g (μ 66 c) + μ 67 c)) 13 0).toNat 0 = fs3 (fun s => xEs μ s (upf g (μ 66 c) (cl (μ 14 (μ 66 c)) (g (μ 66 c) + μ 67 c)) s)) (μ 13 0).toNat 0 := by
        rw [hF2 13 (by decide)]
        refine fs3_congr _ _ (fun s a b => ?_)
        unfold xEs
        rw [hF2 19 (by decide), hF2 20 (by decide), hF2 14 (by decide), hA2 s a (by omega)]
      refine J.aload_n hG dX6_staysLawful_114 rfl rfl ?_
      refine J.callV hG (X6_isUnlawfulMeanwhile _ (XB_fr (by decide) hB (XFr_up hF _ _)) hv2) ok_X6_isUnlawfulMeanwhile ml_X6_294 rfl rfl rfl rfl (Nat.le_of_ble_eq_true rfl) ⟨Nat.le_of_ble_eq_true rfl, Nat.le_of_ble_eq_true rfl⟩ dX6_staysLawful_115 rfl (fun r1 μ1 hp1 => ?_)
      obtain ⟨rfl, rfl⟩ := hp1
      refine J.ifb_eq hG 123 dX6_staysLawful_118 rfl (fun h118 => ?_) (fun h118 => ?_)
      · refine J.iinc hG dX6_staysLawful_123 (Nat.le_of_ble_eq_true rfl) rfl (fun _ => (by omega)) ?_
        refine J.goto hG 43 dX6_staysLawful_126 rfl ?_
        rw [hsame] at h118
        rw [if_pos (by omega)] at i2
        exact J.drop 5 (J.drop 4 (ih (i + 1) _ _ (by omega) (by omega) (fun j a b => by rw [← fOf_cons c cs j a, ← iq (j + 1) (by omega) (by omega)]; congr 1; omega) (fun z hz => ic z (List.mem_cons_of_mem _ hz)) hF2 hA2 hg2 i2))
      · refine J.iconst hG dX6_staysLawful_121 (by decide) ?_
        refine J.zret hG (by first | exact Or.inl rfl | exact Or.inr rfl | assumption | (split <;> first | exact Or.inl rfl | exact Or.inr rfl)) dX6_staysLawful_122 ?_
        rw [hX]; dsimp only
        rw [hsame] at h118
        rw [if_neg h118] at i2
        exact ⟨by rw [← i2, if_neg (by omega)], hF2⟩
  have lp1 : ∀ (k : Nat) (s : Int) (ν : Mem), 0 ≤ s → s + k = μ 13 0 → (XFr 70 μ ν) → (∀ z : Int, 0 ≤ z → z < s → ν 70 z = μ 18 (l * 4 + z)) → J TX X 6 2 [some (aR 0), some (aI l), some (aI m), some (aI s), none, none] [] ν := by
    intro k
    induction k with
    | zero =>
      intro s ν i0 i1 hF hA
      have e0 : ν 13 0 = μ 13 0 := by rw [hF 13 (by decide)]
      refine J.iload_n hG dX6_staysLawful_2 rfl rfl ?_
      refine J.aload_n hG dX6_staysLawful_3 rfl rfl ?_
      refine J.getR hG ciX6 rfl 1 1 rfl (Nat.le_of_ble_eq_true rfl) rfl fl_X6_19 dX6_staysLawful_4 ?_
      refine J.getI hG ciX1 rfl 0 0 rfl (Nat.le_of_ble_eq_true rfl) rfl fl_X6_222 dX6_staysLawful_7 ?_
      refine J.icmp_ge hG 41 dX6_staysLawful_10 rfl (fun h10 => ?_) (fun h10 => absurd h10 (by omega))
      refine J.iconst hG dX6_staysLawful_41 (by decide) ?_
      refine J.istore_n hG dX6_staysLawful_42 rfl (Nat.le_of_ble_eq_true rfl) ?_
      exact lp2 p 0 ν _ (Int.le_refl _) (by omega) (fun j a b => by rw [Int.zero_add]; exact hp1 j a (by omega)) hp2 hF (fun z a b => hA z a (by omega)) (fun s a b => ⟨(h6 l s hl.1 hl.2 a b).2.2.1, (h6 l s hl.1 hl.2 a b).2.2.2⟩) rfl
    | succ k ih =>
      intro s ν i0 i1 hF hA
      have e0 : ν 13 0 = μ 13 0 := by rw [hF 13 (by decide)]
      have e18 : ν 18 = μ 18 := hF 18 (by decide)
      refine J.iload_n hG dX6_staysLawful_2 rfl rfl ?_
      refine J.aload_n hG dX6_staysLawful_3 rfl rfl ?_
      refine J.getR hG ciX6 rfl 1 1 rfl (Nat.le_of_ble_eq_true rfl) rfl fl_X6_19 dX6_staysLawful_4 ?_
      refine J.getI hG ciX1 rfl 0 0 rfl (Nat.le_of_ble_eq_true rfl) rfl fl_X6_222 dX6_staysLawful_7 ?_
      refine J.icmp_ge hG 41 dX6_staysLawful_10 rfl (fun h10 => absurd h10 (by omega)) (fun h10 => ?_)
      refine J.aload_n hG dX6_staysLawful_13 rfl rfl ?_
      refine J.getR hG ciX6 rfl 6 6 rfl (Nat.le_of_ble_eq_true rfl) rfl fl_X6_48 dX6_staysLawful_14 ?_
      refine J.getR hG ciX0 rfl 5 5 rfl (Nat.le_of_ble_eq_true rfl) rfl fl_X6_285 dX6_staysLawful_17 ?_
      refine J.iload_n hG dX6_staysLawful_20 rfl rfl ?_
      refine J.aload_n hG dX6_staysLawful_21 rfl rfl ?_
      refine J.getR hG ciX6 rfl 2 2 rfl (Nat.le_of_ble_eq_true rfl) rfl fl_X6_26 dX6_staysLawful_22 ?_
      refine J.getR hG ciX2 rfl 2 2 rfl (Nat.le_of_ble_eq_true rfl) rfl fl_X6_121 dX6_staysLawful_25 ?_
      refine J.iload_n hG dX6_staysLawful_28 rfl rfl ?_
      refine J.iload_n hG dX6_staysLawful_29 rfl rfl ?_
      refine J.callS hG (X6_cell _ _ _ (by omega) (by omega)) ok_X6_cell ml_X6_124 rfl (Nat.le_of_ble_eq_true rfl) ⟨Nat.le_of_ble_eq_true rfl, Nat.le_of_ble_eq_true rfl⟩ dX6_staysLawful_30 rfl (fun r1 μ1 hp1 => ?_)
      obtain ⟨rfl, rfl⟩ := hp1
      refine J.iald hG rfl (by omega) (by omega) dX6_staysLawful_33 ?_
      refine J.iast hG rfl (by omega) (by omega) dX6_staysLawful_34 ?_
      refine J.iinc hG dX6_staysLawful_35 (Nat.le_of_ble_eq_true rfl) rfl (fun _ => (by omega)) ?_
      refine J.goto hG 2 dX6_staysLawful_38 rfl ?_
      exact ih (s + 1) _ (by omega) (by omega) (XFr_up hF _ _) (fun z a b => by by_cases hz : z = s; rw [hz, up_self, e18]; rw [up_ne _ (fun w => hz w.2)]; exact hA z a (by omega))
  refine J.iconst hG dX6_staysLawful_0 (by decide) ?_
  refine J.istore_n hG dX6_staysLawful_1 rfl (Nat.le_of_ble_eq_true rfl) ?_
  exact lp1 (μ 13 0).toNat 0 μ (Int.le_refl _) (by omega) (fun _ _ => rfl) (fun z a b => absurd b (by omega))

set_option maxRecDepth 100000 in
set_option maxHeartbeats 4000000 in
theorem X6_lawfulOrders (μ : Mem) (hB : XB μ) (hP : XPn μ) (l wo : Int) (hl : 0 ≤ l ∧ l < μ 13 1) (hw : wo = -9 ∨ (0 ≤ wo ∧ wo < μ 65 0)) : CT TX md_X6_lawfulOrders [aR 0, aI l, aI wo] μ (fun rv μ1 => rv = some (aI (xSel μ l wo).length) ∧ XF3 μ μ1 ∧ ((xSel μ l wo) ≠ [] → ∀ j : Int, 0 ≤ j → j < (pcn (μ 65 0).toNat wo : Nat) → μ1 69 j = fOf ((xSel μ l wo).headD []) j)) := by
  refine CT.of (Nat.le_of_ble_eq_true rfl) (by decide) rfl (Nat.le_of_ble_eq_true rfl) (fun X hG hX => ?_)
  have hG : G TX X RX6 cX6_lawfulOrders 7 4 92 (some .int) := hG
  show J TX X 7 0 [some (aR 0), some (aI l), some (aI wo), none, none, none, none] [] μ
  have hck := chk_all (μ 65 0).toNat wo (by have := hP.1; omega) (by rcases hw with h | h; exact Or.inl h; exact Or.inr (by omega))
  have hm5 : pcn (μ 65 0).toNat wo ≤ 5 := by have := hP.1; unfold pcn; split <;> omega
  simp only [chkP, Bool.and_eq_true, beq_iff_eq, decide_eq_true_eq, List.all_eq_true] at hck
  obtain ⟨⟨⟨k1, hlp⟩, k3⟩, k4⟩ := hck
  have fin : ∀ (t cnt : Int) (ν : Mem), XF3 μ ν → (∃ done : List (List Int), xSel μ l wo = done ++ List.filter (fun p => xSty μ l p == 1) [] ∧ cnt = done.length ∧ (done ≠ [] → ∀ j : Int, 0 ≤ j → j < (pcn (μ 65 0).toNat wo : Nat) → ν 69 j = fOf ((xSel μ l wo).headD []) j)) → J TX X 7 18 [some (aR 0), some (aI l), some (aI wo), some (aI (pcn (μ 65 0).toNat wo : Nat)), some (aI cnt), some (aI 0), some (aI t)] [] ν := by
    intro t cnt ν hF hI
    obtain ⟨done, d1, d2, d3⟩ := hI
    rw [List.filter_nil, List.append_nil] at d1
    refine J.iload hG dX6_lawfulOrders_18 rfl ?_
    refine J.bipush hG dX6_lawfulOrders_20 (by decide) (by decide) ?_
    refine J.icmp_ge hG 70 dX6_lawfulOrders_22 rfl (fun h22 => ?_) (fun h22 => ?_)
    · refine J.iload hG dX6_lawfulOrders_70 rfl ?_
      refine J.iret hG dX6_lawfulOrders_72 ?_
      rw [hX]; dsimp only
      exact ⟨by rw [d2, d1], hF, fun hs => d3 (by rw [← d1]; exact hs)⟩
    · refine J.iload hG dX6_lawfulOrders_25 rfl ?_
      refine J.if_eq hG 70 dX6_lawfulOrders_27 rfl (fun h27 => ?_) (fun h27 => absurd h27 (by omega))
      refine J.iload hG dX6_lawfulOrders_70 rfl ?_
      refine J.iret hG dX6_lawfulOrders_72 ?_
      rw [hX]; dsimp only
      exact ⟨by rw [d2, d1], hF, fun hs => d3 (by rw [← d1]; exact hs)⟩
  have lp : ∀ (rest : List (List Int)) (p : List Int) (t cnt : Int) (ν : Mem), chn (p :: rest) = true → (∀ q ∈ p :: rest, q.length = pcn (μ 65 0).toNat wo ∧ ∀ z ∈ q, 0 ≤ z ∧ z < μ 65 0) → 0 ≤ t → t + 1 + rest.length ≤ 120 → XF3 μ ν → Agr (pcn (μ 65 0).toNat wo : Nat) (ν 68) (fOf p) → (∃ done : List (List Int), xSel μ l wo = done ++ List.filter (fun p => xSty μ l p == 1) (p :: rest) ∧ cnt = done.length ∧ (done ≠ [] → ∀ j : Int, 0 ≤ j → j < (pcn (μ 65 0).toNat wo : Nat) → ν 69 j = fOf ((xSel μ l wo).headD []) j)) → J TX X 7 18 [some (aR 0), some (aI l), some (aI wo), some (aI (pcn (μ 65 0).toNat wo : Nat)), some (aI cnt), some (aI 1), some (aI t)] [] ν := by
    intro rest
    induction rest with
    | nil =>
      intro p t cnt ν hc ha ht0 ht hF hA hI
      obtain ⟨done, d1, d2, d3⟩ := hI
      have hq := ha p List.mem_cons_self
      have e65 : ν 65 0 = μ 65 0 := by rw [hF 65 (by omega)]
      have e13 : ν 13 1 = μ 13 1 := by rw [hF 13 (by omega)]
      have es := xSty_of hF l p
      have hlen : (done.length : Int) ≤ 120 := by
        have h8 : (xSel μ l wo).length ≤ 120 := Nat.le_trans (List.length_filter_le _ _) hlp
        rw [d1, List.length_append] at h8
        omega
      refine J.iload hG dX6_lawfulOrders_18 rfl ?_
      refine J.bipush hG dX6_lawfulOrders_20 (by decide) (by decide) ?_
      refine J.icmp_ge hG 70 dX6_lawfulOrders_22 rfl (fun h22 => absurd h22 (by simp only [List.length_nil] at ht; omega)) (fun h22 => ?_)
      refine J.iload hG dX6_lawfulOrders_25 rfl ?_
      refine J.if_eq hG 70 dX6_lawfulOrders_27 rfl (fun h27 => absurd h27 (by omega)) (fun h27 => ?_)
      refine J.aload_n hG dX6_lawfulOrders_30 rfl rfl ?_
      refine J.iload_n hG dX6_lawfulOrders_31 rfl rfl ?_
      refine J.iload_n hG dX6_lawfulOrders_32 rfl rfl ?_
      refine J.callV hG (X6_staysLawful _ (XF3_XB hB hF) (XPn_of hF hP) _ _ p (by omega) (by rw [hq.1]) (by omega) hA (fun c hc => by rw [e65]; exact hq.2 c hc)) ok_X6_staysLawful ml_X6_276 rfl rfl rfl rfl (Nat.le_of_ble_eq_true rfl) ⟨Nat.le_of_ble_eq_true rfl, Nat.le_of_ble_eq_true rfl⟩ dX6_lawfulOrders_33 rfl (fun r1 ν1 hp1 => ?_)
      obtain ⟨rfl, s2⟩ := hp1
      rw [es]
      have hF1 : XF3 μ ν1 := XF3_tr hF (XF3_fr (by omega) s2)
      have e1 : ν1 68 = ν 68 := s2 68 (by decide)
      refine J.ifb_eq hG 54 dX6_lawfulOrders_36 rfl (fun h36 => ?_) (fun h36 => ?_)
      · refine J.aload_n hG dX6_lawfulOrders_54 rfl rfl ?_
        refine J.getR hG ciX6 rfl 6 6 rfl (Nat.le_of_ble_eq_true rfl) rfl fl_X6_48 dX6_lawfulOrders_55 ?_
        refine J.iload_n hG dX6_lawfulOrders_58 rfl rfl ?_
        refine J.callV hG (X0_goesToNextOrder _ _ (by omega)) ok_X0_goesToNextOrder ml_X6_282 rfl rfl rfl rfl (Nat.le_of_ble_eq_true rfl) ⟨Nat.le_of_ble_eq_true rfl, Nat.le_of_ble_eq_true rfl⟩ dX6_lawfulOrders_59 rfl (fun r1 ν3 hp1 => ?_)
        obtain ⟨g2, rfl, g3⟩ := hp1
        refine J.istore hG dX6_lawfulOrders_62 (Nat.le_of_ble_eq_true rfl) ?_
        refine J.iinc hG dX6_lawfulOrders_64 (Nat.le_of_ble_eq_true rfl) rfl (fun _ => (by omega)) ?_
        refine J.goto hG 18 dX6_lawfulOrders_67 rfl ?_
        have hF3 : XF3 μ ν3 := XF3_tr hF1 (XF3_fr (by omega) g2)
        rw [e1] at g3 ⊢
        have hnx : nxF (ν 68) (pcn (μ 65 0).toNat wo : Nat) = none := by
          rcases nxF_agr (by omega) hA with h | ⟨f1, f2, h1, h2, h3⟩
          · exact h.1
          · rw [← hq.1] at h2
            simp only [chn] at hc
            rw [h2] at hc
            cases hc
        rw [hnx, if_neg (by decide)]
        exact fin (t + 1) _ ν3 hF3 ⟨done, by rw [d1, List.filter_cons, if_neg (by simpa using h36)], d2, fun hd j a b => by rw [g2 69 (by decide), s2 69 (by decide)]; exact d3 hd j a b⟩
      · refine J.iload hG dX6_lawfulOrders_39 rfl ?_
        refine J.if_ne hG 51 dX6_lawfulOrders_41 rfl (fun h41 => ?_) (fun h41 => ?_)
        · refine J.iinc hG dX6_lawfulOrders_51 (Nat.le_of_ble_eq_true rfl) rfl (fun _ => (by omega)) ?_
          refine J.aload_n hG dX6_lawfulOrders_54 rfl rfl ?_
          refine J.getR hG ciX6 rfl 6 6 rfl (Nat.le_of_ble_eq_true rfl) rfl fl_X6_48 dX6_lawfulOrders_55 ?_
          refine J.iload_n hG dX6_lawfulOrders_58 rfl rfl ?_
          refine J.callV hG (X0_goesToNextOrder _ _ (by omega)) ok_X0_goesToNextOrder ml_X6_282 rfl rfl rfl rfl (Nat.le_of_ble_eq_true rfl) ⟨Nat.le_of_ble_eq_true rfl, Nat.le_of_ble_eq_true rfl⟩ dX6_lawfulOrders_59 rfl (fun r1 ν3 hp1 => ?_)
          obtain ⟨g2, rfl, g3⟩ := hp1
          refine J.istore hG dX6_lawfulOrders_62 (Nat.le_of_ble_eq_true rfl) ?_
          refine J.iinc hG dX6_lawfulOrders_64 (Nat.le_of_ble_eq_true rfl) rfl (fun _ => (by omega)) ?_
          refine J.goto hG 18 dX6_lawfulOrders_67 rfl ?_
          have hF3 : XF3 μ ν3 := XF3_tr hF1 (XF3_fr (by omega) g2)
          rw [e1] at g3 ⊢
          have hnx : nxF (ν 68) (pcn (μ 65 0).toNat wo : Nat) = none := by
            rcases nxF_agr (by omega) hA with h | ⟨f1, f2, h1, h2, h3⟩
            · exact h.1
            · rw [← hq.1] at h2
              simp only [chn] at hc
              rw [h2] at hc
              cases hc
          rw [hnx, if_neg (by decide)]
          exact fin (t + 1) _ ν3 hF3 ⟨done ++ [p], by rw [d1, List.filter_cons, if_pos (by simpa using h36), List.append_assoc]; rfl, by rw [List.length_append, d2]; rfl, fun _ j a b => by rw [g2 69 (by decide), s2 69 (by decide)]; exact d3 (fun w => h41 (by rw [d2, w]; rfl)) j a b⟩
        · refine J.aload_n hG dX6_lawfulOrders_44 rfl rfl ?_
          refine J.getR hG ciX6 rfl 6 6 rfl (Nat.le_of_ble_eq_true rfl) rfl fl_X6_48 dX6_lawfulOrders_45 ?_
          refine J.callV hG (X0_keepsAsFirst _) ok_X0_keepsAsFirst ml_X6_279 rfl rfl rfl rfl (Nat.le_of_ble_eq_true rfl) ⟨Nat.le_of_ble_eq_true rfl, Nat.le_of_ble_eq_true rfl⟩ dX6_lawfulOrders_48 rfl (fun r1 ν2 hp1 => ?_)
          obtain ⟨rfl, k2, k3⟩ := hp1
          have hF2 : XF3 μ ν2 := XF3_tr hF1 (XF3_fr (by omega) k2)
          have e2 : ν2 68 = ν 68 := by rw [k2 68 (by decide), e1]
          refine J.iinc hG dX6_lawfulOrders_51 (Nat.le_of_ble_eq_true rfl) rfl (fun _ => (by omega)) ?_
          refine J.aload_n hG dX6_lawfulOrders_54 rfl rfl ?_
          refine J.getR hG ciX6 rfl 6 6 rfl (Nat.le_of_ble_eq_true rfl) rfl fl_X6_48 dX6_lawfulOrders_55 ?_
          refine J.iload_n hG dX6_lawfulOrders_58 rfl rfl ?_
          refine J.callV hG (X0_goesToNextOrder _ _ (by omega)) ok_X0_goesToNextOrder ml_X6_282 rfl rfl rfl rfl (Nat.le_of_ble_eq_true rfl) ⟨Nat.le_of_ble_eq_true rfl, Nat.le_of_ble_eq_true rfl⟩ dX6_lawfulOrders_59 rfl (fun r1 ν3 hp1 => ?_)
          obtain ⟨g2, rfl, g3⟩ := hp1
          refine J.istore hG dX6_lawfulOrders_62 (Nat.le_of_ble_eq_true rfl) ?_
          refine J.iinc hG dX6_lawfulOrders_64 (Nat.le_of_ble_eq_true rfl) rfl (fun _ => (by omega)) ?_
          refine J.goto hG 18 dX6_lawfulOrders_67 rfl ?_
          have hF3 : XF3 μ ν3 := XF3_tr hF2 (XF3_fr (by omega) g2)
          rw [e2] at g3 ⊢
          have hnx : nxF (ν 68) (pcn (μ 65 0).toNat wo : Nat) = none := by
            rcases nxF_agr (by omega) hA with h | ⟨f1, f2, h1, h2, h3⟩
            · exact h.1
            · rw [← hq.1] at h2
              simp only [chn] at hc
              rw [h2] at hc
              cases hc
          rw [hnx, if_neg (by decide)]
          have hdn : done = [] := List.eq_nil_of_length_eq_zero (by omega)
          subst hdn
          have hfst : (xSel μ l wo).headD [] = p := by rw [d1, List.filter_cons, if_pos (by simpa using h36)]; rfl
          exact fin (t + 1) _ ν3 hF3 ⟨[p], by rw [d1, List.filter_cons, if_pos (by simpa using h36)]; rfl, by rw [h41]; rfl, fun _ j a b => by rw [g2 69 (by decide), k3 j a (by omega), hfst, e1]; exact hA j a b⟩
    | cons q r ih =>
      intro p t cnt ν hc ha ht0 ht hF hA hI
      rw [List.length_cons] at ht
      obtain ⟨done, d1, d2, d3⟩ := hI
      have hq := ha p List.mem_cons_self
      have e65 : ν 65 0 = μ 65 0 := by rw [hF 65 (by omega)]
      have e13 : ν 13 1 = μ 13 1 := by rw [hF 13 (by omega)]
      have es := xSty_of hF l p
      have hlen : (done.length : Int) ≤ 120 := by
        have h8 : (xSel μ l wo).length ≤ 120 := Nat.le_trans (List.length_filter_le _ _) hlp
        rw [d1, List.length_append] at h8
        omega
      refine J.iload hG dX6_lawfulOrders_18 rfl ?_
      refine J.bipush hG dX6_lawfulOrders_20 (by decide) (by decide) ?_
      refine J.icmp_ge hG 70 dX6_lawfulOrders_22 rfl (fun h22 => absurd h22 (by omega)) (fun h22 => ?_)
      refine J.iload hG dX6_lawfulOrders_25 rfl ?_
      refine J.if_eq hG 70 dX6_lawfulOrders_27 rfl (fun h27 => absurd h27 (by omega)) (fun h27 => ?_)
      refine J.aload_n hG dX6_lawfulOrders_30 rfl rfl ?_
      refine J.iload_n hG dX6_lawfulOrders_31 rfl rfl ?_
      refine J.iload_n hG dX6_lawfulOrders_32 rfl rfl ?_
      refine J.callV hG (X6_staysLawful _ (XF3_XB hB hF) (XPn_of hF hP) _ _ p (by omega) (by rw [hq.1]) (by omega) hA (fun c hc => by rw [e65]; exact hq.2 c hc)) ok_X6_staysLawful ml_X6_276 rfl rfl rfl rfl (Nat.le_of_ble_eq_true rfl) ⟨Nat.le_of_ble_eq_true rfl, Nat.le_of_ble_eq_true rfl⟩ dX6_lawfulOrders_33 rfl (fun r1 ν1 hp1 => ?_)
      obtain ⟨rfl, s2⟩ := hp1
      rw [es]
      have hF1 : XF3 μ ν1 := XF3_tr hF (XF3_fr (by omega) s2)
      have e1 : ν1 68 = ν 68 := s2 68 (by decide)
      refine J.ifb_eq hG 54 dX6_lawfulOrders_36 rfl (fun h36 => ?_) (fun h36 => ?_)
      · refine J.aload_n hG dX6_lawfulOrders_54 rfl rfl ?_
        refine J.getR hG ciX6 rfl 6 6 rfl (Nat.le_of_ble_eq_true rfl) rfl fl_X6_48 dX6_lawfulOrders_55 ?_
        refine J.iload_n hG dX6_lawfulOrders_58 rfl rfl ?_
        refine J.callV hG (X0_goesToNextOrder _ _ (by omega)) ok_X0_goesToNextOrder ml_X6_282 rfl rfl rfl rfl (Nat.le_of_ble_eq_true rfl) ⟨Nat.le_of_ble_eq_true rfl, Nat.le_of_ble_eq_true rfl⟩ dX6_lawfulOrders_59 rfl (fun r1 ν3 hp1 => ?_)
        obtain ⟨g2, rfl, g3⟩ := hp1
        refine J.istore hG dX6_lawfulOrders_62 (Nat.le_of_ble_eq_true rfl) ?_
        refine J.iinc hG dX6_lawfulOrders_64 (Nat.le_of_ble_eq_true rfl) rfl (fun _ => (by omega)) ?_
        refine J.goto hG 18 dX6_lawfulOrders_67 rfl ?_
        have hF3 : XF3 μ ν3 := XF3_tr hF1 (XF3_fr (by omega) g2)
        rw [e1] at g3 ⊢
        have hc2 := hc
        simp only [chn, Bool.and_eq_true, beq_iff_eq] at hc2
        obtain ⟨f1, f2, y1, y2, y3⟩ : ∃ f' g', nxF (ν 68) (pcn (μ 65 0).toNat wo : Nat) = some f' ∧ nxF (fOf p) (pcn (μ 65 0).toNat wo : Nat) = some g' ∧ Agr (pcn (μ 65 0).toNat wo : Nat) f' g' := by
          rcases nxF_agr (by omega) hA with h | h
          · rw [hq.1] at hc2
            rw [h.2] at hc2
            cases hc2.1
          · exact h
        rw [y1, show (if (some f1).isSome = true then (1 : Int) else 0) = 1 from rfl]
        have hq2 : Agr (pcn (μ 65 0).toNat wo : Nat) (ν3 68) (fOf q) := by
          have e9 := hc2.1
          rw [hq.1, y2, Option.map_some] at e9
          rw [g3 f1 y1, ← Option.some.inj e9]
          intro z a b
          rw [y3 z a b]
          exact (fOf_toL _ f2 z a b).symm
        exact ih q (t + 1) _ ν3 hc2.2 (fun z hz => ha z (List.mem_cons_of_mem _ hz)) (by omega) (by omega) hF3 hq2 ⟨done, by rw [d1, List.filter_cons, if_neg (by simpa using h36)], d2, fun hd j a b => by rw [g2 69 (by decide), s2 69 (by decide)]; exact d3 hd j a b⟩
      · refine J.iload hG dX6_lawfulOrders_39 rfl ?_
        refine J.if_ne hG 51 dX6_lawfulOrders_41 rfl (fun h41 => ?_) (fun h41 => ?_)
        · refine J.iinc hG dX6_lawfulOrders_51 (Nat.le_of_ble_eq_true rfl) rfl (fun _ => (by omega)) ?_
          refine J.aload_n hG dX6_lawfulOrders_54 rfl rfl ?_
          refine J.getR hG ciX6 rfl 6 6 rfl (Nat.le_of_ble_eq_true rfl) rfl fl_X6_48 dX6_lawfulOrders_55 ?_
          refine J.iload_n hG dX6_lawfulOrders_58 rfl rfl ?_
          refine J.callV hG (X0_goesToNextOrder _ _ (by omega)) ok_X0_goesToNextOrder ml_X6_282 rfl rfl rfl rfl (Nat.le_of_ble_eq_true rfl) ⟨Nat.le_of_ble_eq_true rfl, Nat.le_of_ble_eq_true rfl⟩ dX6_lawfulOrders_59 rfl (fun r1 ν3 hp1 => ?_)
          obtain ⟨g2, rfl, g3⟩ := hp1
          refine J.istore hG dX6_lawfulOrders_62 (Nat.le_of_ble_eq_true rfl) ?_
          refine J.iinc hG dX6_lawfulOrders_64 (Nat.le_of_ble_eq_true rfl) rfl (fun _ => (by omega)) ?_
          refine J.goto hG 18 dX6_lawfulOrders_67 rfl ?_
          have hF3 : XF3 μ ν3 := XF3_tr hF1 (XF3_fr (by omega) g2)
          rw [e1] at g3 ⊢
          have hc2 := hc
          simp only [chn, Bool.and_eq_true, beq_iff_eq] at hc2
          obtain ⟨f1, f2, y1, y2, y3⟩ : ∃ f' g', nxF (ν 68) (pcn (μ 65 0).toNat wo : Nat) = some f' ∧ nxF (fOf p) (pcn (μ 65 0).toNat wo : Nat) = some g' ∧ Agr (pcn (μ 65 0).toNat wo : Nat) f' g' := by
            rcases nxF_agr (by omega) hA with h | h
            · rw [hq.1] at hc2
              rw [h.2] at hc2
              cases hc2.1
            · exact h
          rw [y1, show (if (some f1).isSome = true then (1 : Int) else 0) = 1 from rfl]
          have hq2 : Agr (pcn (μ 65 0).toNat wo : Nat) (ν3 68) (fOf q) := by
            have e9 := hc2.1
            rw [hq.1, y2, Option.map_some] at e9
            rw [g3 f1 y1, ← Option.some.inj e9]
            intro z a b
            rw [y3 z a b]
            exact (fOf_toL _ f2 z a b).symm
          exact ih q (t + 1) _ ν3 hc2.2 (fun z hz => ha z (List.mem_cons_of_mem _ hz)) (by omega) (by omega) hF3 hq2 ⟨done ++ [p], by rw [d1, List.filter_cons, if_pos (by simpa using h36), List.append_assoc]; rfl, by rw [List.length_append, d2]; rfl, fun _ j a b => by rw [g2 69 (by decide), s2 69 (by decide)]; exact d3 (fun w => h41 (by rw [d2, w]; rfl)) j a b⟩
        · refine J.aload_n hG dX6_lawfulOrders_44 rfl rfl ?_
          refine J.getR hG ciX6 rfl 6 6 rfl (Nat.le_of_ble_eq_true rfl) rfl fl_X6_48 dX6_lawfulOrders_45 ?_
          refine J.callV hG (X0_keepsAsFirst _) ok_X0_keepsAsFirst ml_X6_279 rfl rfl rfl rfl (Nat.le_of_ble_eq_true rfl) ⟨Nat.le_of_ble_eq_true rfl, Nat.le_of_ble_eq_true rfl⟩ dX6_lawfulOrders_48 rfl (fun r1 ν2 hp1 => ?_)
          obtain ⟨rfl, k2, k3⟩ := hp1
          have hF2 : XF3 μ ν2 := XF3_tr hF1 (XF3_fr (by omega) k2)
          have e2 : ν2 68 = ν 68 := by rw [k2 68 (by decide), e1]
          refine J.iinc hG dX6_lawfulOrders_51 (Nat.le_of_ble_eq_true rfl) rfl (fun _ => (by omega)) ?_
          refine J.aload_n hG dX6_lawfulOrders_54 rfl rfl ?_
          refine J.getR hG ciX6 rfl 6 6 rfl (Nat.le_of_ble_eq_true rfl) rfl fl_X6_48 dX6_lawfulOrders_55 ?_
          refine J.iload_n hG dX6_lawfulOrders_58 rfl rfl ?_
          refine J.callV hG (X0_goesToNextOrder _ _ (by omega)) ok_X0_goesToNextOrder ml_X6_282 rfl rfl rfl rfl (Nat.le_of_ble_eq_true rfl) ⟨Nat.le_of_ble_eq_true rfl, Nat.le_of_ble_eq_true rfl⟩ dX6_lawfulOrders_59 rfl (fun r1 ν3 hp1 => ?_)
          obtain ⟨g2, rfl, g3⟩ := hp1
          refine J.istore hG dX6_lawfulOrders_62 (Nat.le_of_ble_eq_true rfl) ?_
          refine J.iinc hG dX6_lawfulOrders_64 (Nat.le_of_ble_eq_true rfl) rfl (fun _ => (by omega)) ?_
          refine J.goto hG 18 dX6_lawfulOrders_67 rfl ?_
          have hF3 : XF3 μ ν3 := XF3_tr hF2 (XF3_fr (by omega) g2)
          rw [e2] at g3 ⊢
          have hc2 := hc
          simp only [chn, Bool.and_eq_true, beq_iff_eq] at hc2
          obtain ⟨f1, f2, y1, y2, y3⟩ : ∃ f' g', nxF (ν 68) (pcn (μ 65 0).toNat wo : Nat) = some f' ∧ nxF (fOf p) (pcn (μ 65 0).toNat wo : Nat) = some g' ∧ Agr (pcn (μ 65 0).toNat wo : Nat) f' g' := by
            rcases nxF_agr (by omega) hA with h | h
            · rw [hq.1] at hc2
              rw [h.2] at hc2
              cases hc2.1
            · exact h
          rw [y1, show (if (some f1).isSome = true then (1 : Int) else 0) = 1 from rfl]
          have hq2 : Agr (pcn (μ 65 0).toNat wo : Nat) (ν3 68) (fOf q) := by
            have e9 := hc2.1
            rw [hq.1, y2, Option.map_some] at e9
            rw [g3 f1 y1, ← Option.some.inj e9]
            intro z a b
            rw [y3 z a b]
            exact (fOf_toL _ f2 z a b).symm
          have hdn : done = [] := List.eq_nil_of_length_eq_zero (by omega)
          subst hdn
          have hfst : (xSel μ l wo).headD [] = p := by rw [d1, List.filter_cons, if_pos (by simpa using h36)]; rfl
          exact ih q (t + 1) _ ν3 hc2.2 (fun z hz => ha z (List.mem_cons_of_mem _ hz)) (by omega) (by omega) hF3 hq2 ⟨[p], by rw [d1, List.filter_cons, if_pos (by simpa using h36)]; rfl, by rw [h41]; rfl, fun _ j a b => by rw [g2 69 (by decide), k3 j a (by omega), hfst, e1]; exact hA j a b⟩
  refine J.aload_n hG dX6_lawfulOrders_0 rfl rfl ?_
  refine J.getR hG ciX6 rfl 6 6 rfl (Nat.le_of_ble_eq_true rfl) rfl fl_X6_48 dX6_lawfulOrders_1 ?_
  refine J.iload_n hG dX6_lawfulOrders_4 rfl rfl ?_
  refine J.callV hG (X0_startsOrders _ _ hP.1 hw) ok_X0_startsOrders ml_X6_273 rfl rfl rfl rfl (Nat.le_of_ble_eq_true rfl) ⟨Nat.le_of_ble_eq_true rfl, Nat.le_of_ble_eq_true rfl⟩ dX6_lawfulOrders_5 rfl (fun r1 ν0 hp1 => ?_)
  obtain ⟨rfl, s2, s3⟩ := hp1
  refine J.istore_n hG dX6_lawfulOrders_8 rfl (Nat.le_of_ble_eq_true rfl) ?_
  refine J.iconst hG dX6_lawfulOrders_9 (by decide) ?_
  refine J.istore hG dX6_lawfulOrders_10 (Nat.le_of_ble_eq_true rfl) ?_
  refine J.iconst hG dX6_lawfulOrders_12 (by decide) ?_
  refine J.istore hG dX6_lawfulOrders_13 (Nat.le_of_ble_eq_true rfl) ?_
  refine J.iconst hG dX6_lawfulOrders_15 (by decide) ?_
  refine J.istore hG dX6_lawfulOrders_16 (Nat.le_of_ble_eq_true rfl) ?_
  have hF0 : XF3 μ ν0 := XF3_fr (by omega) s2
  obtain ⟨p0, r0, hps⟩ : ∃ p0 r0, perms (μ 65 0).toNat wo = p0 :: r0 := by
    cases hz : perms (μ 65 0).toNat wo with
    | nil => rw [hz] at k1; cases k1
    | cons a b => exact ⟨a, b, rfl⟩
  rw [hps] at k1 k3 k4 hlp
  have hp0 : p0 = toL (pcn (μ 65 0).toNat wo) (stO wo) := Option.some.inj k1
  exact lp r0 p0 0 0 ν0 k3 (fun q hq => ⟨(k4 q hq).1, fun z hz => by have := (k4 q hq).2 z hz; have h9 := hP.1; omega⟩) (Int.le_refl _) (by rw [List.length_cons] at hlp; omega) hF0 (fun z a b => by rw [s3 z a b, hp0]; exact (fOf_toL _ _ z a b).symm) ⟨[], by unfold xSel; rw [hps]; rfl, rfl, fun w => absurd rfl w⟩


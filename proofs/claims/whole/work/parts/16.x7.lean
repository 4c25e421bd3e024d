def Agr (n : Int) (f g : Int → Int) : Prop := ∀ z : Int, 0 ≤ z → z < n → f z = g z
def XPl (μ : Mem) : Prop := ∀ p : Int, 0 ≤ p → p < μ 13 2 → 0 ≤ μ 16 p ∧ μ 16 p ≤ 60
def xAp (μ : Mem) (a b : Int) : Int := if 0 ≤ μ 16 a - μ 16 b then μ 16 a - μ 16 b else 0 - (μ 16 a - μ 16 b)
def xJ (μ : Mem) (s a b : Int) : Int := if xAp μ a b ≤ μ 14 s ∧ ¬ EB (μ 19 s) (μ 20 s) (μ 14 s) (xAp μ a b) = 3 then 1 else 0
/-- the fewest jumps to a place, by how one can jump -/
def rq (R : Int → Int → Int) (p n q : Int) (f : Int → Int) : Int → Int := if f q = -9 ∧ ¬ R p q = 0 then (fun z => if z = q then n + 1 else f z) else f
def rmid (R : Int → Int → Int) (np n p : Int) (f : Int → Int) : Int → Int := if f p = n then ff (rq R p n) np.toNat 0 f else f
def rout (R : Int → Int → Int) (np n : Int) (f : Int → Int) : Int → Int := ff (rmid R np n) np.toNat 0 f
def BF (R : Int → Int → Int) (np to : Int) : Int → Int := ff (rout R np) np.toNat 0 (fun z => if z = to then 0 else -9)
def XFr (c0 : Nat) (μ ν : Mem) : Prop := ∀ c : Nat, c ≠ c0 → ν c = μ c
theorem XFr_up {c0 : Nat} {μ ν : Mem} (h : XFr c0 μ ν) (j x : Int) : XFr c0 μ (up ν c0 j x) := fun c hc => by rw [up_cell _ _ _ hc]; exact h c hc
theorem XFr_tr {c0 : Nat} {μ ν ν1 : Mem} (h : XFr c0 μ ν) (g : XFr c0 ν ν1) : XFr c0 μ ν1 := fun c hc => by rw [g c hc, h c hc]
theorem XB_fr {c0 : Nat} (hc : 20 < c0) {μ ν : Mem} (hB : XB μ) (h : XFr c0 μ ν) : XB ν := XB_of hB (h 13 (by omega)) (h 14 (by omega)) (h 15 (by omega)) (h 18 (by omega))
theorem XPl_fr {c0 : Nat} (hc : 20 < c0) {μ ν : Mem} (hB : XPl μ) (h : XFr c0 μ ν) : XPl ν := by
  unfold XPl
  rw [h 13 (by omega), h 16 (by omega)]
  exact hB
theorem xJ_fr {c0 : Nat} (hc : 20 < c0) {μ ν : Mem} (h : XFr c0 μ ν) : xJ ν = xJ μ := by
  funext s a b
  unfold xJ xAp
  rw [h 14 (by omega), h 16 (by omega), h 19 (by omega), h 20 (by omega)]
theorem Agr_up {np : Int} {c0 : Nat} {ν : Mem} {g : Int → Int} (h : Agr np (ν c0) g) (q x : Int) : Agr np (up ν c0 q x c0) (fun z => if z = q then x else g z) := by
  intro z a b
  by_cases hz : z = q
  · rw [hz, up_self]; simp
  · rw [up_ne _ (fun w => hz w.2)]
    simp only [if_neg hz]
    exact h z a b
theorem rq_keep {R : Int → Int → Int} {p n : Int} (hn : 0 ≤ n) : ∀ (k : Nat) (q : Int) (f : Int → Int), f p = n → ff (rq R p n) k q f p = n
  | 0, _, _, h => h
  | k + 1, q, f, h => by
    rw [ff]
    apply rq_keep hn k (q + 1)
    unfold rq
    split
    · rename_i w
      have : p ≠ q := fun e => by rw [← e] at w; omega
      simp only [if_neg this]
      exact h
    · exact h
set_option maxRecDepth 100000 in
set_option maxHeartbeats 4000000 in
theorem X6_canJump (μ : Mem) (hB : XB μ) (hL : XPl μ) (s a b : Int) (hs : 0 ≤ s ∧ s < μ 13 0) (ha : 0 ≤ a ∧ a < μ 13 2) (hb : 0 ≤ b ∧ b < μ 13 2) : CT TX md_X6_canJump [aR 0, aI s, aI a, aI b] μ (fun rv μ1 => rv = some (aI (xJ μ s a b)) ∧ μ = μ1) := by
  refine CT.of (Nat.le_of_ble_eq_true rfl) (by decide) rfl (Nat.le_of_ble_eq_true rfl) (fun X hG hX => ?_)
  have hG : G TX X RX6 cX6_canJump 5 2 46 (some .boolean) := hG
  show J TX X 5 0 [some (aR 0), some (aI s), some (aI a), some (aI b), none] [] μ
  have hB2 := hB
  obtain ⟨h1, h2, h3, h4, h5, h6⟩ := hB2
  have q5 := h5 s hs.1 hs.2
  have qa := hL a ha.1 ha.2
  have qb := hL b hb.1 hb.2
  have qp : 0 ≤ xAp μ a b ∧ xAp μ a b ≤ 60 := by unfold xAp; split <;> omega
  refine J.aload_n hG dX6_canJump_0 rfl rfl ?_
  refine J.getR hG ciX6 rfl 1 1 rfl (Nat.le_of_ble_eq_true rfl) rfl fl_X6_19 dX6_canJump_1 ?_
  refine J.getR hG ciX1 rfl 6 6 rfl (Nat.le_of_ble_eq_true rfl) rfl fl_X6_141 dX6_canJump_4 ?_
  refine J.iload_n hG dX6_canJump_7 rfl rfl ?_
  refine J.iald hG rfl (by omega) (by omega) dX6_canJump_8 ?_
  refine J.aload_n hG dX6_canJump_9 rfl rfl ?_
  refine J.getR hG ciX6 rfl 1 1 rfl (Nat.le_of_ble_eq_true rfl) rfl fl_X6_19 dX6_canJump_10 ?_
  refine J.getR hG ciX1 rfl 6 6 rfl (Nat.le_of_ble_eq_true rfl) rfl fl_X6_141 dX6_canJump_13 ?_
  refine J.iload_n hG dX6_canJump_16 rfl rfl ?_
  refine J.iald hG rfl (by omega) (by omega) dX6_canJump_17 ?_
  refine J.isub hG dX6_canJump_18 (fun _ _ => (by omega)) ?_
  refine J.mabs hG ml_X6_298 (by omega) (Nat.le_of_ble_eq_true rfl) (Nat.le_of_ble_eq_true rfl) dX6_canJump_19 ?_
  show J TX X 5 22 [some (aR 0), some (aI s), some (aI a), some (aI b), none] [aI (xAp μ a b)] μ
  refine J.istore hG dX6_canJump_22 (Nat.le_of_ble_eq_true rfl) ?_
  refine J.iload hG dX6_canJump_24 rfl ?_
  refine J.aload_n hG dX6_canJump_26 rfl rfl ?_
  refine J.getR hG ciX6 rfl 1 1 rfl (Nat.le_of_ble_eq_true rfl) rfl fl_X6_19 dX6_canJump_27 ?_
  refine J.getR hG ciX1 rfl 4 4 rfl (Nat.le_of_ble_eq_true rfl) rfl fl_X6_112 dX6_canJump_30 ?_
  refine J.iload_n hG dX6_canJump_33 rfl rfl ?_
  refine J.iald hG rfl (by omega) (by omega) dX6_canJump_34 ?_
  refine J.icmp_gt hG 53 dX6_canJump_35 rfl (fun h35 => ?_) (fun h35 => ?_)
  · refine J.iconst hG dX6_canJump_53 (by decide) ?_
    refine J.zret hG (by first | exact Or.inl rfl | exact Or.inr rfl | assumption | (split <;> first | exact Or.inl rfl | exact Or.inr rfl)) dX6_canJump_54 ?_
    rw [hX]; dsimp only
    exact ⟨by congr 2; unfold xJ; first | (rw [if_pos ⟨by omega, by assumption⟩]) | (rw [if_neg (fun w => w.2 (by assumption))]) | (rw [if_neg (fun w => absurd w.1 (by omega))]), rfl⟩
  · refine J.aload_n hG dX6_canJump_38 rfl rfl ?_
    refine J.iload_n hG dX6_canJump_39 rfl rfl ?_
    refine J.iload hG dX6_canJump_40 rfl ?_
    refine J.callV hG (X6_endOf _ _ _ (by omega) (by omega)) ok_X6_endOf ml_X6_135 rfl rfl rfl rfl (Nat.le_of_ble_eq_true rfl) ⟨Nat.le_of_ble_eq_true rfl, Nat.le_of_ble_eq_true rfl⟩ dX6_canJump_42 rfl (fun r1 μ1 hp1 => ?_)
    obtain ⟨rfl, rfl⟩ := hp1
    refine J.iconst hG dX6_canJump_45 (by decide) ?_
    refine J.icmp_eq hG 53 dX6_canJump_46 rfl (fun h46 => ?_) (fun h46 => ?_)
    · refine J.iconst hG dX6_canJump_53 (by decide) ?_
      refine J.zret hG (by first | exact Or.inl rfl | exact Or.inr rfl | assumption | (split <;> first | exact Or.inl rfl | exact Or.inr rfl)) dX6_canJump_54 ?_
      rw [hX]; dsimp only
      exact ⟨by congr 2; unfold xJ; first | (rw [if_pos ⟨by omega, by assumption⟩]) | (rw [if_neg (fun w => w.2 (by assumption))]) | (rw [if_neg (fun w => absurd w.1 (by omega))]), rfl⟩
    · refine J.iconst hG dX6_canJump_49 (by decide) ?_
      refine J.goto hG 54 dX6_canJump_50 rfl ?_
      refine J.zret hG (by first | exact Or.inl rfl | exact Or.inr rfl | assumption | (split <;> first | exact Or.inl rfl | exact Or.inr rfl)) dX6_canJump_54 ?_
      rw [hX]; dsimp only
      exact ⟨by congr 2; unfold xJ; first | (rw [if_pos ⟨by omega, by assumption⟩]) | (rw [if_neg (fun w => w.2 (by assumption))]) | (rw [if_neg (fun w => absurd w.1 (by omega))]), rfl⟩

set_option maxRecDepth 100000 in
set_option maxHeartbeats 4000000 in
theorem X6_reachFrom (μ : Mem) (hB : XB μ) (hL : XPl μ) (p s n : Int) (f : Int → Int) (hp : 0 ≤ p ∧ p < μ 13 2) (hs : 0 ≤ s ∧ s < μ 13 0) (hn0 : 0 ≤ n ∧ n ≤ 8) (hf : Agr (μ 13 2) (μ 75) f) (hn : f p = n) : CT TX md_X6_reachFrom [aR 0, aI p, aI s] μ (fun rv μ1 => rv = none ∧ XFr 75 μ μ1 ∧ Agr (μ 13 2) (μ1 75) (ff (rq (xJ μ s) p n) (μ 13 2).toNat 0 f)) := by
  refine CT.of (Nat.le_of_ble_eq_true rfl) (by decide) rfl (Nat.le_of_ble_eq_true rfl) (fun X hG hX => ?_)
  have hG : G TX X RX6 cX6_reachFrom 4 3 70 none := hG
  show J TX X 4 0 [some (aR 0), some (aI p), some (aI s), none] [] μ
  have hB2 := hB
  obtain ⟨h1, h2, h3, h4, h5, h6⟩ := hB2
  have lp : ∀ (k : Nat) (q : Int) (ν : Mem) (g : Int → Int), 0 ≤ q → q + k = μ 13 2 → (XFr 75 μ ν) → (Agr (μ 13 2) (ν 75) g) → (g p = n) → (ff (rq (xJ μ s) p n) k q g = ff (rq (xJ μ s) p n) (μ 13 2).toNat 0 f) → J TX X 4 2 [some (aR 0), some (aI p), some (aI s), some (aI q)] [] ν := by
    intro k
    induction k with
    | zero =>
      intro q ν g i0 i1 hF hA hg i2
      have e13 : ν 13 = μ 13 := hF 13 (by decide)
      have e2 : ν 13 2 = μ 13 2 := by rw [e13]
      have e0 : ν 13 0 = μ 13 0 := by rw [e13]
      rw [ff] at i2
      refine J.iload_n hG dX6_reachFrom_2 rfl rfl ?_
      refine J.aload_n hG dX6_reachFrom_3 rfl rfl ?_
      refine J.getR hG ciX6 rfl 1 1 rfl (Nat.le_of_ble_eq_true rfl) rfl fl_X6_19 dX6_reachFrom_4 ?_
      refine J.getI hG ciX1 rfl 2 2 rfl (Nat.le_of_ble_eq_true rfl) rfl fl_X6_249 dX6_reachFrom_7 ?_
      refine J.icmp_ge hG 54 dX6_reachFrom_10 rfl (fun h10 => ?_) (fun h10 => absurd h10 (by omega))
      refine J.vret hG dX6_reachFrom_54 ?_
      rw [hX]; dsimp only
      exact ⟨rfl, hF, by rw [← i2]; exact hA⟩
    | succ k ih =>
      intro q ν g i0 i1 hF hA hg i2
      have e13 : ν 13 = μ 13 := hF 13 (by decide)
      have e2 : ν 13 2 = μ 13 2 := by rw [e13]
      have e0 : ν 13 0 = μ 13 0 := by rw [e13]
      rw [ff] at i2
      have aq := hA q (by omega) (by omega)
      have ap := hA p (by omega) (by omega)
      have ej : xJ ν s p q = xJ μ s p q := by rw [xJ_fr (by decide) hF]
      refine J.iload_n hG dX6_reachFrom_2 rfl rfl ?_
      refine J.aload_n hG dX6_reachFrom_3 rfl rfl ?_
      refine J.getR hG ciX6 rfl 1 1 rfl (Nat.le_of_ble_eq_true rfl) rfl fl_X6_19 dX6_reachFrom_4 ?_
      refine J.getI hG ciX1 rfl 2 2 rfl (Nat.le_of_ble_eq_true rfl) rfl fl_X6_249 dX6_reachFrom_7 ?_
      refine J.icmp_ge hG 54 dX6_reachFrom_10 rfl (fun h10 => absurd h10 (by omega)) (fun h10 => ?_)
      refine J.aload_n hG dX6_reachFrom_13 rfl rfl ?_
      refine J.getR hG ciX6 rfl 8 8 rfl (Nat.le_of_ble_eq_true rfl) rfl fl_X6_59 dX6_reachFrom_14 ?_
      refine J.iload_n hG dX6_reachFrom_17 rfl rfl ?_
      refine J.iald hG rfl (by omega) (by omega) dX6_reachFrom_18 ?_
      refine J.bipush hG dX6_reachFrom_19 (by decide) (by decide) ?_
      refine J.icmp_ne hG 48 dX6_reachFrom_21 rfl (fun h21 => ?_) (fun h21 => ?_)
      · refine J.iinc hG dX6_reachFrom_48 (Nat.le_of_ble_eq_true rfl) rfl (fun _ => (by omega)) ?_
        refine J.goto hG 2 dX6_reachFrom_51 rfl ?_
        first
          | (rw [rq, if_neg (by omega)] at i2; exact ih (q + 1) _ _ (by omega) (by omega) hF hA hg i2)
          | (rw [rq, if_pos (by omega)] at i2
             rw [ap, hg]
             exact ih (q + 1) _ _ (by omega) (by omega) (XFr_up hF _ _) (Agr_up hA _ _) (by rw [if_neg (fun w => by subst w; omega)]; exact hg) i2)
      · refine J.aload_n hG dX6_reachFrom_24 rfl rfl ?_
        refine J.iload_n hG dX6_reachFrom_25 rfl rfl ?_
        refine J.iload_n hG dX6_reachFrom_26 rfl rfl ?_
        refine J.iload_n hG dX6_reachFrom_27 rfl rfl ?_
        refine J.callV hG (X6_canJump _ (XB_fr (by decide) hB hF) (XPl_fr (by decide) hL hF) _ _ _ (by omega) (by omega) (by omega)) ok_X6_canJump ml_X6_304 rfl rfl rfl rfl (Nat.le_of_ble_eq_true rfl) ⟨Nat.le_of_ble_eq_true rfl, Nat.le_of_ble_eq_true rfl⟩ dX6_reachFrom_28 rfl (fun r1 μ1 hp1 => ?_)
        obtain ⟨rfl, rfl⟩ := hp1
        refine J.if_eq hG 48 dX6_reachFrom_31 rfl (fun h31 => ?_) (fun h31 => ?_)
        · refine J.iinc hG dX6_reachFrom_48 (Nat.le_of_ble_eq_true rfl) rfl (fun _ => (by omega)) ?_
          refine J.goto hG 2 dX6_reachFrom_51 rfl ?_
          first
            | (rw [rq, if_neg (by omega)] at i2; exact ih (q + 1) _ _ (by omega) (by omega) hF hA hg i2)
            | (rw [rq, if_pos (by omega)] at i2
               rw [ap, hg]
               exact ih (q + 1) _ _ (by omega) (by omega) (XFr_up hF _ _) (Agr_up hA _ _) (by rw [if_neg (fun w => by subst w; omega)]; exact hg) i2)
        · refine J.aload_n hG dX6_reachFrom_34 rfl rfl ?_
          refine J.getR hG ciX6 rfl 8 8 rfl (Nat.le_of_ble_eq_true rfl) rfl fl_X6_59 dX6_reachFrom_35 ?_
          refine J.iload_n hG dX6_reachFrom_38 rfl rfl ?_
          refine J.aload_n hG dX6_reachFrom_39 rfl rfl ?_
          refine J.getR hG ciX6 rfl 8 8 rfl (Nat.le_of_ble_eq_true rfl) rfl fl_X6_59 dX6_reachFrom_40 ?_
          refine J.iload_n hG dX6_reachFrom_43 rfl rfl ?_
          refine J.iald hG rfl (by omega) (by omega) dX6_reachFrom_44 ?_
          refine J.iconst hG dX6_reachFrom_45 (by decide) ?_
          refine J.iadd hG dX6_reachFrom_46 (fun _ _ => (by omega)) ?_
          refine J.iast hG rfl (by omega) (by omega) dX6_reachFrom_47 ?_
          refine J.iinc hG dX6_reachFrom_48 (Nat.le_of_ble_eq_true rfl) rfl (fun _ => (by omega)) ?_
          refine J.goto hG 2 dX6_reachFrom_51 rfl ?_
          first
            | (rw [rq, if_neg (by omega)] at i2; exact ih (q + 1) _ _ (by omega) (by omega) hF hA hg i2)
            | (rw [rq, if_pos (by omega)] at i2
               rw [ap, hg]
               exact ih (q + 1) _ _ (by omega) (by omega) (XFr_up hF _ _) (Agr_up hA _ _) (by rw [if_neg (fun w => by subst w; omega)]; exact hg) i2)
  refine J.iconst hG dX6_reachFrom_0 (by decide) ?_
  refine J.istore_n hG dX6_reachFrom_1 rfl (Nat.le_of_ble_eq_true rfl) ?_
  exact lp (μ 13 2).toNat 0 μ f (Int.le_refl _) (by omega) (fun _ _ => rfl) hf hn rfl

set_option maxRecDepth 100000 in
set_option maxHeartbeats 4000000 in
theorem X6_countJumpsTo (μ : Mem) (hB : XB μ) (hL : XPl μ) (t s : Int) (ht : 0 ≤ t ∧ t < μ 13 2) (hs : 0 ≤ s ∧ s < μ 13 0) : CT TX md_X6_countJumpsTo [aR 0, aI t, aI s] μ (fun rv μ1 => rv = none ∧ XFr 75 μ μ1 ∧ Agr (μ 13 2) (μ1 75) (BF (xJ μ s) (μ 13 2) t)) := by
  refine CT.of (Nat.le_of_ble_eq_true rfl) (by decide) rfl (Nat.le_of_ble_eq_true rfl) (fun X hG hX => ?_)
  have hG : G TX X RX6 cX6_countJumpsTo 5 4 93 none := hG
  show J TX X 5 0 [some (aR 0), some (aI t), some (aI s), none, none] [] μ
  have hB2 := hB
  obtain ⟨h1, h2, h3, h4, h5, h6⟩ := hB2
  have lp2 : ∀ (k : Nat) (n : Int) (ν : Mem) (g : Int → Int), 0 ≤ n → n + k = μ 13 2 → (XFr 75 μ ν) → (Agr (μ 13 2) (ν 75) g) → (ff (rout (xJ μ s) (μ 13 2)) k n g = BF (xJ μ s) (μ 13 2) t) → J TX X 5 36 [some (aR 0), some (aI t), some (aI s), some (aI n), none] [] ν := by
    intro k
    induction k with
    | zero =>
      intro n ν g i0 i1 hF hA i2
      have e13 : ν 13 = μ 13 := hF 13 (by decide)
      have e2 : ν 13 2 = μ 13 2 := by rw [e13]
      have e0 : ν 13 0 = μ 13 0 := by rw [e13]
      simp only [ff] at i2
      refine J.iload_n hG dX6_countJumpsTo_36 rfl rfl ?_
      refine J.aload_n hG dX6_countJumpsTo_37 rfl rfl ?_
      refine J.getR hG ciX6 rfl 1 1 rfl (Nat.le_of_ble_eq_true rfl) rfl fl_X6_19 dX6_countJumpsTo_38 ?_
      refine J.getI hG ciX1 rfl 2 2 rfl (Nat.le_of_ble_eq_true rfl) rfl fl_X6_249 dX6_countJumpsTo_41 ?_
      refine J.icmp_ge hG 92 dX6_countJumpsTo_44 rfl (fun h44 => ?_) (fun h44 => absurd h44 (by omega))
      refine J.vret hG dX6_countJumpsTo_92 ?_
      rw [hX]; dsimp only
      exact ⟨rfl, hF, by rw [← i2]; exact hA⟩
    | succ k ih =>
      intro n ν g i0 i1 hF hA i2
      rw [ff] at i2
      have ih0 := ih
      clear ih
      rename Nat => k_
      have lp3 : ∀ (k : Nat) (p : Int) (ν : Mem) (g : Int → Int), 0 ≤ p → p + k = μ 13 2 → (XFr 75 μ ν) → (Agr (μ 13 2) (ν 75) g) → (ff (rout (xJ μ s) (μ 13 2)) k_ (n + 1) (ff (rmid (xJ μ s) (μ 13 2) n) k p g) = BF (xJ μ s) (μ 13 2) t) → J TX X 5 50 [some (aR 0), some (aI t), some (aI s), some (aI n), some (aI p)] [] ν := by
        intro k
        induction k with
        | zero =>
          intro p ν g i8 i9 hF hA j2
          have e13 : ν 13 = μ 13 := hF 13 (by decide)
          have e2 : ν 13 2 = μ 13 2 := by rw [e13]
          have e0 : ν 13 0 = μ 13 0 := by rw [e13]
          simp only [ff] at j2
          refine J.iload hG dX6_countJumpsTo_50 rfl ?_
          refine J.aload_n hG dX6_countJumpsTo_52 rfl rfl ?_
          refine J.getR hG ciX6 rfl 1 1 rfl (Nat.le_of_ble_eq_true rfl) rfl fl_X6_19 dX6_countJumpsTo_53 ?_
          refine J.getI hG ciX1 rfl 2 2 rfl (Nat.le_of_ble_eq_true rfl) rfl fl_X6_249 dX6_countJumpsTo_56 ?_
          refine J.icmp_ge hG 86 dX6_countJumpsTo_59 rfl (fun h59 => ?_) (fun h59 => absurd h59 (by omega))
          refine J.iinc hG dX6_countJumpsTo_86 (Nat.le_of_ble_eq_true rfl) rfl (fun _ => (by omega)) ?_
          refine J.goto hG 36 dX6_countJumpsTo_89 rfl ?_
          exact J.drop 4 (ih0 (n + 1) ν g (by omega) (by omega) hF hA j2)
        | succ k ih =>
          intro p ν g i8 i9 hF hA j2
          have e13 : ν 13 = μ 13 := hF 13 (by decide)
          have e2 : ν 13 2 = μ 13 2 := by rw [e13]
          have e0 : ν 13 0 = μ 13 0 := by rw [e13]
          rw [ff] at j2
          have ap := hA p (by omega) (by omega)
          refine J.iload hG dX6_countJumpsTo_50 rfl ?_
          refine J.aload_n hG dX6_countJumpsTo_52 rfl rfl ?_
          refine J.getR hG ciX6 rfl 1 1 rfl (Nat.le_of_ble_eq_true rfl) rfl fl_X6_19 dX6_countJumpsTo_53 ?_
          refine J.getI hG ciX1 rfl 2 2 rfl (Nat.le_of_ble_eq_true rfl) rfl fl_X6_249 dX6_countJumpsTo_56 ?_
          refine J.icmp_ge hG 86 dX6_countJumpsTo_59 rfl (fun h59 => absurd h59 (by omega)) (fun h59 => ?_)
          refine J.aload_n hG dX6_countJumpsTo_62 rfl rfl ?_
          refine J.getR hG ciX6 rfl 8 8 rfl (Nat.le_of_ble_eq_true rfl) rfl fl_X6_59 dX6_countJumpsTo_63 ?_
          refine J.iload hG dX6_countJumpsTo_66 rfl ?_
          refine J.iald hG rfl (by omega) (by omega) dX6_countJumpsTo_68 ?_
          refine J.iload_n hG dX6_countJumpsTo_69 rfl rfl ?_
          refine J.icmp_ne hG 80 dX6_countJumpsTo_70 rfl (fun h70 => ?_) (fun h70 => ?_)
          · refine J.iinc hG dX6_countJumpsTo_80 (Nat.le_of_ble_eq_true rfl) rfl (fun _ => (by omega)) ?_
            refine J.goto hG 50 dX6_countJumpsTo_83 rfl ?_
            first
              | (rw [rmid, if_neg (by omega)] at j2; exact ih (p + 1) _ _ (by omega) (by omega) hF hA j2)
              | (rw [rmid, if_pos (by omega)] at j2
                 rw [e13, xJ_fr (by decide) hF] at hp3
                 exact ih (p + 1) _ _ (by omega) (by omega) (XFr_tr hF hp2) hp3 j2)
          · refine J.aload_n hG dX6_countJumpsTo_73 rfl rfl ?_
            refine J.iload hG dX6_countJumpsTo_74 rfl ?_
            refine J.iload_n hG dX6_countJumpsTo_76 rfl rfl ?_
            refine J.callV hG (X6_reachFrom _ (XB_fr (by decide) hB hF) (XPl_fr (by decide) hL hF) _ _ n g (by omega) (by omega) (by omega) (by rw [e13]; exact hA) (by omega)) ok_X6_reachFrom ml_X6_301 rfl rfl rfl rfl (Nat.le_of_ble_eq_true rfl) ⟨Nat.le_of_ble_eq_true rfl, Nat.le_of_ble_eq_true rfl⟩ dX6_countJumpsTo_77 rfl (fun r1 μ1 hp1 => ?_)
            obtain ⟨rfl, hp2, hp3⟩ := hp1
            refine J.iinc hG dX6_countJumpsTo_80 (Nat.le_of_ble_eq_true rfl) rfl (fun _ => (by omega)) ?_
            refine J.goto hG 50 dX6_countJumpsTo_83 rfl ?_
            first
              | (rw [rmid, if_neg (by omega)] at j2; exact ih (p + 1) _ _ (by omega) (by omega) hF hA j2)
              | (rw [rmid, if_pos (by omega)] at j2
                 rw [e13, xJ_fr (by decide) hF] at hp3
                 exact ih (p + 1) _ _ (by omega) (by omega) (XFr_tr hF hp2) hp3 j2)
      have e13 : ν 13 = μ 13 := hF 13 (by decide)
      have e2 : ν 13 2 = μ 13 2 := by rw [e13]
      have e0 : ν 13 0 = μ 13 0 := by rw [e13]
      refine J.iload_n hG dX6_countJumpsTo_36 rfl rfl ?_
      refine J.aload_n hG dX6_countJumpsTo_37 rfl rfl ?_
      refine J.getR hG ciX6 rfl 1 1 rfl (Nat.le_of_ble_eq_true rfl) rfl fl_X6_19 dX6_countJumpsTo_38 ?_
      refine J.getI hG ciX1 rfl 2 2 rfl (Nat.le_of_ble_eq_true rfl) rfl fl_X6_249 dX6_countJumpsTo_41 ?_
      refine J.icmp_ge hG 92 dX6_countJumpsTo_44 rfl (fun h44 => absurd h44 (by omega)) (fun h44 => ?_)
      refine J.iconst hG dX6_countJumpsTo_47 (by decide) ?_
      refine J.istore hG dX6_countJumpsTo_48 (Nat.le_of_ble_eq_true rfl) ?_
      exact lp3 (μ 13 2).toNat 0 ν g (Int.le_refl _) (by omega) hF hA i2
  have lp1 : ∀ (k : Nat) (q : Int) (ν : Mem), 0 ≤ q → q + k = μ 13 2 → (XFr 75 μ ν) → (∀ z : Int, 0 ≤ z → z < q → ν 75 z = -9) → J TX X 5 2 [some (aR 0), some (aI t), some (aI s), some (aI q), none] [] ν := by
    intro k
    induction k with
    | zero =>
      intro q ν i0 i1 hF hA
      have e13 : ν 13 = μ 13 := hF 13 (by decide)
      have e2 : ν 13 2 = μ 13 2 := by rw [e13]
      have e0 : ν 13 0 = μ 13 0 := by rw [e13]
      refine J.iload_n hG dX6_countJumpsTo_2 rfl rfl ?_
      refine J.aload_n hG dX6_countJumpsTo_3 rfl rfl ?_
      refine J.getR hG ciX6 rfl 1 1 rfl (Nat.le_of_ble_eq_true rfl) rfl fl_X6_19 dX6_countJumpsTo_4 ?_
      refine J.getI hG ciX1 rfl 2 2 rfl (Nat.le_of_ble_eq_true rfl) rfl fl_X6_249 dX6_countJumpsTo_7 ?_
      refine J.icmp_ge hG 27 dX6_countJumpsTo_10 rfl (fun h10 => ?_) (fun h10 => absurd h10 (by omega))
      refine J.aload_n hG dX6_countJumpsTo_27 rfl rfl ?_
      refine J.getR hG ciX6 rfl 8 8 rfl (Nat.le_of_ble_eq_true rfl) rfl fl_X6_59 dX6_countJumpsTo_28 ?_
      refine J.iload_n hG dX6_countJumpsTo_31 rfl rfl ?_
      refine J.iconst hG dX6_countJumpsTo_32 (by decide) ?_
      refine J.iast hG rfl (by omega) (by omega) dX6_countJumpsTo_33 ?_
      refine J.iconst hG dX6_countJumpsTo_34 (by decide) ?_
      refine J.istore_n hG dX6_countJumpsTo_35 rfl (Nat.le_of_ble_eq_true rfl) ?_
      exact lp2 (μ 13 2).toNat 0 _ _ (Int.le_refl _) (by omega) (XFr_up hF _ _) (Agr_up (g := fun _ => -9) (fun z a b => hA z a (by omega)) t 0) rfl
    | succ k ih =>
      intro q ν i0 i1 hF hA
      have e13 : ν 13 = μ 13 := hF 13 (by decide)
      have e2 : ν 13 2 = μ 13 2 := by rw [e13]
      have e0 : ν 13 0 = μ 13 0 := by rw [e13]
      refine J.iload_n hG dX6_countJumpsTo_2 rfl rfl ?_
      refine J.aload_n hG dX6_countJumpsTo_3 rfl rfl ?_
      refine J.getR hG ciX6 rfl 1 1 rfl (Nat.le_of_ble_eq_true rfl) rfl fl_X6_19 dX6_countJumpsTo_4 ?_
      refine J.getI hG ciX1 rfl 2 2 rfl (Nat.le_of_ble_eq_true rfl) rfl fl_X6_249 dX6_countJumpsTo_7 ?_
      refine J.icmp_ge hG 27 dX6_countJumpsTo_10 rfl (fun h10 => absurd h10 (by omega)) (fun h10 => ?_)
      refine J.aload_n hG dX6_countJumpsTo_13 rfl rfl ?_
      refine J.getR hG ciX6 rfl 8 8 rfl (Nat.le_of_ble_eq_true rfl) rfl fl_X6_59 dX6_countJumpsTo_14 ?_
      refine J.iload_n hG dX6_countJumpsTo_17 rfl rfl ?_
      refine J.bipush hG dX6_countJumpsTo_18 (by decide) (by decide) ?_
      refine J.iast hG rfl (by omega) (by omega) dX6_countJumpsTo_20 ?_
      refine J.iinc hG dX6_countJumpsTo_21 (Nat.le_of_ble_eq_true rfl) rfl (fun _ => (by omega)) ?_
      refine J.goto hG 2 dX6_countJumpsTo_24 rfl ?_
      exact ih (q + 1) _ (by omega) (by omega) (XFr_up hF _ _) (fun z a b => by by_cases hz : z = q; rw [hz, up_self]; rw [up_ne _ (fun w => hz w.2)]; exact hA z a (by omega))
  refine J.iconst hG dX6_countJumpsTo_0 (by decide) ?_
  refine J.istore_n hG dX6_countJumpsTo_1 rfl (Nat.le_of_ble_eq_true rfl) ?_
  exact lp1 (μ 13 2).toNat 0 μ (Int.le_refl _) (by omega) (fun _ _ => rfl) (fun z a b => absurd b (by omega))

set_option maxRecDepth 100000 in
set_option maxHeartbeats 4000000 in
theorem X6_firstPlaceOnTheWay (μ : Mem) (hB : XB μ) (hL : XPl μ) (a s : Int) (ha : 0 ≤ a ∧ a < μ 13 2) (hs : 0 ≤ s ∧ s < μ 13 0) (hj : -10 ≤ μ 75 a ∧ μ 75 a ≤ 100) : CT TX md_X6_firstPlaceOnTheWay [aR 0, aI a, aI s] μ (fun rv μ1 => rv = some (aI (fs3 (fun p => if ¬ xJ μ s a p = 0 ∧ μ 75 p = μ 75 a - 1 then 3 else 0) (μ 13 2).toNat 0)) ∧ μ = μ1) := by
  refine CT.of (Nat.le_of_ble_eq_true rfl) (by decide) rfl (Nat.le_of_ble_eq_true rfl) (fun X hG hX => ?_)
  have hG : G TX X RX6 cX6_firstPlaceOnTheWay 4 3 70 (some .int) := hG
  show J TX X 4 0 [some (aR 0), some (aI a), some (aI s), none] [] μ
  have hB2 := hB
  obtain ⟨h1, h2, h3, h4, h5, h6⟩ := hB2
  have lp : ∀ (k : Nat) (p : Int), 0 ≤ p → p + k = μ 13 2 → (fs3 (fun p => if ¬ xJ μ s a p = 0 ∧ μ 75 p = μ 75 a - 1 then 3 else 0) k p = fs3 (fun p => if ¬ xJ μ s a p = 0 ∧ μ 75 p = μ 75 a - 1 then 3 else 0) (μ 13 2).toNat 0) → J TX X 4 2 [some (aR 0), some (aI a), some (aI s), some (aI p)] [] μ := by
    intro k
    induction k with
    | zero =>
      intro p  i0 i1 i2
      simp only [fs3] at i2
      refine J.iload_n hG dX6_firstPlaceOnTheWay_2 rfl rfl ?_
      refine J.aload_n hG dX6_firstPlaceOnTheWay_3 rfl rfl ?_
      refine J.getR hG ciX6 rfl 1 1 rfl (Nat.le_of_ble_eq_true rfl) rfl fl_X6_19 dX6_firstPlaceOnTheWay_4 ?_
      refine J.getI hG ciX1 rfl 2 2 rfl (Nat.le_of_ble_eq_true rfl) rfl fl_X6_249 dX6_firstPlaceOnTheWay_7 ?_
      refine J.icmp_ge hG 48 dX6_firstPlaceOnTheWay_10 rfl (fun h10 => ?_) (fun h10 => absurd h10 (by omega))
      refine J.bipush hG dX6_firstPlaceOnTheWay_48 (by decide) (by decide) ?_
      refine J.iret hG dX6_firstPlaceOnTheWay_50 ?_
      rw [hX]; dsimp only
      exact ⟨by rw [← i2], rfl⟩
    | succ k ih =>
      intro p  i0 i1 i2
      rw [fs3] at i2
      refine J.iload_n hG dX6_firstPlaceOnTheWay_2 rfl rfl ?_
      refine J.aload_n hG dX6_firstPlaceOnTheWay_3 rfl rfl ?_
      refine J.getR hG ciX6 rfl 1 1 rfl (Nat.le_of_ble_eq_true rfl) rfl fl_X6_19 dX6_firstPlaceOnTheWay_4 ?_
      refine J.getI hG ciX1 rfl 2 2 rfl (Nat.le_of_ble_eq_true rfl) rfl fl_X6_249 dX6_firstPlaceOnTheWay_7 ?_
      refine J.icmp_ge hG 48 dX6_firstPlaceOnTheWay_10 rfl (fun h10 => absurd h10 (by omega)) (fun h10 => ?_)
      refine J.aload_n hG dX6_firstPlaceOnTheWay_13 rfl rfl ?_
      refine J.iload_n hG dX6_firstPlaceOnTheWay_14 rfl rfl ?_
      refine J.iload_n hG dX6_firstPlaceOnTheWay_15 rfl rfl ?_
      refine J.iload_n hG dX6_firstPlaceOnTheWay_16 rfl rfl ?_
      refine J.callV hG (X6_canJump _ hB hL _ _ _ hs ha (by omega)) ok_X6_canJump ml_X6_304 rfl rfl rfl rfl (Nat.le_of_ble_eq_true rfl) ⟨Nat.le_of_ble_eq_true rfl, Nat.le_of_ble_eq_true rfl⟩ dX6_firstPlaceOnTheWay_17 rfl (fun r1 μ1 hp1 => ?_)
      obtain ⟨rfl, rfl⟩ := hp1
      refine J.if_eq hG 42 dX6_firstPlaceOnTheWay_20 rfl (fun h20 => ?_) (fun h20 => ?_)
      · refine J.iinc hG dX6_firstPlaceOnTheWay_42 (Nat.le_of_ble_eq_true rfl) rfl (fun _ => (by omega)) ?_
        refine J.goto hG 2 dX6_firstPlaceOnTheWay_45 rfl ?_
        have e : ¬ (if ¬ xJ μ s a p = 0 ∧ μ 75 p = μ 75 a - 1 then (3 : Int) else 0) = 3 := by rw [if_neg (by omega)]; omega
        rw [if_neg e] at i2
        exact ih (p + 1) (by omega) (by omega) i2
      · refine J.aload_n hG dX6_firstPlaceOnTheWay_23 rfl rfl ?_
        refine J.getR hG ciX6 rfl 8 8 rfl (Nat.le_of_ble_eq_true rfl) rfl fl_X6_59 dX6_firstPlaceOnTheWay_24 ?_
        refine J.iload_n hG dX6_firstPlaceOnTheWay_27 rfl rfl ?_
        refine J.iald hG rfl (by omega) (by omega) dX6_firstPlaceOnTheWay_28 ?_
        refine J.aload_n hG dX6_firstPlaceOnTheWay_29 rfl rfl ?_
        refine J.getR hG ciX6 rfl 8 8 rfl (Nat.le_of_ble_eq_true rfl) rfl fl_X6_59 dX6_firstPlaceOnTheWay_30 ?_
        refine J.iload_n hG dX6_firstPlaceOnTheWay_33 rfl rfl ?_
        refine J.iald hG rfl (by omega) (by omega) dX6_firstPlaceOnTheWay_34 ?_
        refine J.iconst hG dX6_firstPlaceOnTheWay_35 (by decide) ?_
        refine J.isub hG dX6_firstPlaceOnTheWay_36 (fun _ _ => (by omega)) ?_
        refine J.icmp_ne hG 42 dX6_firstPlaceOnTheWay_37 rfl (fun h37 => ?_) (fun h37 => ?_)
        · refine J.iinc hG dX6_firstPlaceOnTheWay_42 (Nat.le_of_ble_eq_true rfl) rfl (fun _ => (by omega)) ?_
          refine J.goto hG 2 dX6_firstPlaceOnTheWay_45 rfl ?_
          have e : ¬ (if ¬ xJ μ s a p = 0 ∧ μ 75 p = μ 75 a - 1 then (3 : Int) else 0) = 3 := by rw [if_neg (by omega)]; omega
          rw [if_neg e] at i2
          exact ih (p + 1) (by omega) (by omega) i2
        · refine J.iload_n hG dX6_firstPlaceOnTheWay_40 rfl rfl ?_
          refine J.iret hG dX6_firstPlaceOnTheWay_41 ?_
          rw [hX]; dsimp only
          have e : (if ¬ xJ μ s a p = 0 ∧ μ 75 p = μ 75 a - 1 then (3 : Int) else 0) = 3 := if_pos (by omega)
          rw [if_pos e] at i2
          exact ⟨by rw [← i2], rfl⟩
  refine J.iconst hG dX6_firstPlaceOnTheWay_0 (by decide) ?_
  refine J.istore_n hG dX6_firstPlaceOnTheWay_1 rfl (Nat.le_of_ble_eq_true rfl) ?_
  exact lp (μ 13 2).toNat 0 (Int.le_refl _) (by omega) rfl

theorem rq_bd {R : Int → Int → Int} {p n M : Int} (hn : 0 ≤ n ∧ n + 1 ≤ M) : ∀ (k : Nat) (q : Int) (f : Int → Int), (∀ z, -9 ≤ f z ∧ f z ≤ M ∧ f z ≠ -1) → ∀ z, -9 ≤ ff (rq R p n) k q f z ∧ ff (rq R p n) k q f z ≤ M ∧ ff (rq R p n) k q f z ≠ -1
  | 0, _, _, h, z => h z
  | k + 1, q, f, h, z => by
    rw [ff]
    refine rq_bd hn k (q + 1) _ (fun y => ?_) z
    unfold rq
    split
    · dsimp only
      split
      · omega
      · exact h y
    · exact h y
theorem rmid_bd {R : Int → Int → Int} {np n M : Int} (hn : 0 ≤ n ∧ n + 1 ≤ M) : ∀ (k : Nat) (q : Int) (f : Int → Int), (∀ z, -9 ≤ f z ∧ f z ≤ M ∧ f z ≠ -1) → ∀ z, -9 ≤ ff (rmid R np n) k q f z ∧ ff (rmid R np n) k q f z ≤ M ∧ ff (rmid R np n) k q f z ≠ -1
  | 0, _, _, h, z => h z
  | k + 1, q, f, h, z => by
    rw [ff]
    refine rmid_bd hn k (q + 1) _ (fun y => ?_) z
    unfold rmid
    split
    · exact rq_bd hn _ _ _ h y
    · exact h y
theorem rout_bd {R : Int → Int → Int} {np M : Int} : ∀ (k : Nat) (q : Int) (f : Int → Int), 0 ≤ q → q + k ≤ M → (∀ z, -9 ≤ f z ∧ f z ≤ M ∧ f z ≠ -1) → ∀ z, -9 ≤ ff (rout R np) k q f z ∧ ff (rout R np) k q f z ≤ M ∧ ff (rout R np) k q f z ≠ -1
  | 0, _, _, _, _, h, z => h z
  | k + 1, q, f, h0, h1, h, z => by
    rw [ff]
    refine rout_bd k (q + 1) _ (by omega) (by omega) (fun y => ?_) z
    exact rmid_bd (by omega) _ _ _ h y
theorem BF_bd (R : Int → Int → Int) (np to : Int) (h : 0 ≤ np ∧ np ≤ 8) (z : Int) : -9 ≤ BF R np to z ∧ BF R np to z ≤ 8 ∧ BF R np to z ≠ -1 := rout_bd np.toNat 0 _ (Int.le_refl _) (by omega) (fun y => by split <;> omega) z
/-- the answer of a trip -/
def tripA (R : Int → Int → Int) (np a t w : Int) : Int := if w = 0 ∨ BF R np t a = -9 then BF R np t a else fs3 (fun p => if ¬ R a p = 0 ∧ BF R np t p = BF R np t a - 1 then 3 else 0) np.toNat 0

set_option maxRecDepth 100000 in
set_option maxHeartbeats 4000000 in
theorem X6_trip (μ : Mem) (hB : XB μ) (hL : XPl μ) (s a t w : Int) : CT TX md_X6_trip [aR 0, aI s, aI a, aI t, aI w] μ (fun rv μ1 => XFr 75 μ μ1 ∧ rv = some (aI (if (0 ≤ s ∧ s < μ 13 0) ∧ (0 ≤ a ∧ a < μ 13 2) ∧ (0 ≤ t ∧ t < μ 13 2) ∧ (0 ≤ w ∧ w ≤ 1) then tripA (xJ μ s) (μ 13 2) a t w else -1))) := by
  refine CT.of (Nat.le_of_ble_eq_true rfl) (by decide) rfl (Nat.le_of_ble_eq_true rfl) (fun X hG hX => ?_)
  have hG : G TX X RX6 cX6_trip 5 5 117 (some .int) := hG
  show J TX X 5 0 [some (aR 0), some (aI s), some (aI a), some (aI t), some (aI w)] [] μ
  have hB2 := hB
  obtain ⟨h1, h2, h3, h4, h5, h6⟩ := hB2
  refine J.aload_n hG dX6_trip_0 rfl rfl ?_
  refine J.getR hG ciX6 rfl 1 1 rfl (Nat.le_of_ble_eq_true rfl) rfl fl_X6_19 dX6_trip_1 ?_
  refine J.iload_n hG dX6_trip_4 rfl rfl ?_
  refine J.callV hG (X1_hasScale _ _) ok_X1_hasScale ml_X6_106 rfl rfl rfl rfl (Nat.le_of_ble_eq_true rfl) ⟨Nat.le_of_ble_eq_true rfl, Nat.le_of_ble_eq_true rfl⟩ dX6_trip_5 rfl (fun r1 μ1 hp1 => ?_)
  obtain ⟨rfl, rfl⟩ := hp1
  refine J.ifb_eq hG 43 dX6_trip_8 rfl (fun h8 => ?_) (fun h8 => ?_)
  · refine J.iconst hG dX6_trip_43 (by decide) ?_
    refine J.iret hG dX6_trip_44 ?_
    rw [hX]; dsimp only
    exact ⟨fun _ _ => rfl, by rw [if_neg (by omega)]⟩
  · refine J.aload_n hG dX6_trip_11 rfl rfl ?_
    refine J.getR hG ciX6 rfl 1 1 rfl (Nat.le_of_ble_eq_true rfl) rfl fl_X6_19 dX6_trip_12 ?_
    refine J.iload_n hG dX6_trip_15 rfl rfl ?_
    refine J.callV hG (X1_hasPlace _ _) ok_X1_hasPlace ml_X6_138 rfl rfl rfl rfl (Nat.le_of_ble_eq_true rfl) ⟨Nat.le_of_ble_eq_true rfl, Nat.le_of_ble_eq_true rfl⟩ dX6_trip_16 rfl (fun r1 μ1 hp1 => ?_)
    obtain ⟨rfl, rfl⟩ := hp1
    refine J.ifb_eq hG 43 dX6_trip_19 rfl (fun h19 => ?_) (fun h19 => ?_)
    · refine J.iconst hG dX6_trip_43 (by decide) ?_
      refine J.iret hG dX6_trip_44 ?_
      rw [hX]; dsimp only
      exact ⟨fun _ _ => rfl, by rw [if_neg (by omega)]⟩
    · refine J.aload_n hG dX6_trip_22 rfl rfl ?_
      refine J.getR hG ciX6 rfl 1 1 rfl (Nat.le_of_ble_eq_true rfl) rfl fl_X6_19 dX6_trip_23 ?_
      refine J.iload_n hG dX6_trip_26 rfl rfl ?_
      refine J.callV hG (X1_hasPlace _ _) ok_X1_hasPlace ml_X6_138 rfl rfl rfl rfl (Nat.le_of_ble_eq_true rfl) ⟨Nat.le_of_ble_eq_true rfl, Nat.le_of_ble_eq_true rfl⟩ dX6_trip_27 rfl (fun r1 μ1 hp1 => ?_)
      obtain ⟨rfl, rfl⟩ := hp1
      refine J.ifb_eq hG 43 dX6_trip_30 rfl (fun h30 => ?_) (fun h30 => ?_)
      · refine J.iconst hG dX6_trip_43 (by decide) ?_
        refine J.iret hG dX6_trip_44 ?_
        rw [hX]; dsimp only
        exact ⟨fun _ _ => rfl, by rw [if_neg (by omega)]⟩
      · refine J.iload hG dX6_trip_33 rfl ?_
        refine J.iconst hG dX6_trip_35 (by decide) ?_
        refine J.iconst hG dX6_trip_36 (by decide) ?_
        refine J.callS hG (X6_within _ _ _ _) ok_X6_within ml_X6_70 rfl (Nat.le_of_ble_eq_true rfl) ⟨Nat.le_of_ble_eq_true rfl, Nat.le_of_ble_eq_true rfl⟩ dX6_trip_37 rfl (fun r1 μ1 hp1 => ?_)
        obtain ⟨rfl, rfl⟩ := hp1
        refine J.ifb_ne hG 45 dX6_trip_40 rfl (fun h40 => ?_) (fun h40 => ?_)
        · refine J.aload_n hG dX6_trip_45 rfl rfl ?_
          refine J.iload_n hG dX6_trip_46 rfl rfl ?_
          refine J.iload_n hG dX6_trip_47 rfl rfl ?_
          refine J.callV hG (X6_countJumpsTo _ hB hL _ _ (by omega) (by omega)) ok_X6_countJumpsTo ml_X6_200 rfl rfl rfl rfl (Nat.le_of_ble_eq_true rfl) ⟨Nat.le_of_ble_eq_true rfl, Nat.le_of_ble_eq_true rfl⟩ dX6_trip_48 rfl (fun r1 μ1 hp1 => ?_)
          obtain ⟨rfl, hF, hA⟩ := hp1
          have ea := hA a (by omega) (by omega)
          have bb := BF_bd (xJ μ s) (μ 13 2) t h3 a
          have e13 : μ1 13 = μ 13 := hF 13 (by decide)
          refine J.iload hG dX6_trip_51 rfl ?_
          refine J.if_eq hG 67 dX6_trip_53 rfl (fun h53 => ?_) (fun h53 => ?_)
          · refine J.aload_n hG dX6_trip_67 rfl rfl ?_
            refine J.getR hG ciX6 rfl 8 8 rfl (Nat.le_of_ble_eq_true rfl) rfl fl_X6_59 dX6_trip_68 ?_
            refine J.iload_n hG dX6_trip_71 rfl rfl ?_
            refine J.iald hG rfl (by omega) (by omega) dX6_trip_72 ?_
            refine J.iret hG dX6_trip_73 ?_
            rw [hX]; dsimp only
            exact ⟨hF, by rw [if_pos (by omega), tripA, if_pos (by omega), ea]⟩
          · refine J.aload_n hG dX6_trip_56 rfl rfl ?_
            refine J.getR hG ciX6 rfl 8 8 rfl (Nat.le_of_ble_eq_true rfl) rfl fl_X6_59 dX6_trip_57 ?_
            refine J.iload_n hG dX6_trip_60 rfl rfl ?_
            refine J.iald hG rfl (by omega) (by omega) dX6_trip_61 ?_
            refine J.bipush hG dX6_trip_62 (by decide) (by decide) ?_
            refine J.icmp_ne hG 74 dX6_trip_64 rfl (fun h64 => ?_) (fun h64 => ?_)
            · refine J.aload_n hG dX6_trip_74 rfl rfl ?_
              refine J.iload_n hG dX6_trip_75 rfl rfl ?_
              refine J.iload_n hG dX6_trip_76 rfl rfl ?_
              refine J.callV hG (X6_firstPlaceOnTheWay _ (XB_fr (by decide) hB hF) (XPl_fr (by decide) hL hF) _ _ (by rw [e13]; omega) (by rw [e13]; omega) (by omega)) ok_X6_firstPlaceOnTheWay ml_X6_204 rfl rfl rfl rfl (Nat.le_of_ble_eq_true rfl) ⟨Nat.le_of_ble_eq_true rfl, Nat.le_of_ble_eq_true rfl⟩ dX6_trip_77 rfl (fun r1 μ1 hp1 => ?_)
              obtain ⟨rfl, rfl⟩ := hp1
              refine J.iret hG dX6_trip_80 ?_
              rw [hX]; dsimp only
              refine ⟨hF, ?_⟩
              rw [if_pos (by omega), tripA, if_neg (by omega)]
              congr 2
              rw [hF 13 (by decide)]
              refine fs3_congr _ _ (fun i u v => ?_)
              rw [xJ_fr (by decide) hF, hA i u (by omega), ea]
            · refine J.aload_n hG dX6_trip_67 rfl rfl ?_
              refine J.getR hG ciX6 rfl 8 8 rfl (Nat.le_of_ble_eq_true rfl) rfl fl_X6_59 dX6_trip_68 ?_
              refine J.iload_n hG dX6_trip_71 rfl rfl ?_
              refine J.iald hG rfl (by omega) (by omega) dX6_trip_72 ?_
              refine J.iret hG dX6_trip_73 ?_
              rw [hX]; dsimp only
              exact ⟨hF, by rw [if_pos (by omega), tripA, if_pos (by omega), ea]⟩
        · refine J.iconst hG dX6_trip_43 (by decide) ?_
          refine J.iret hG dX6_trip_44 ?_
          rw [hX]; dsimp only
          exact ⟨fun _ _ => rfl, by rw [if_neg (by omega)]⟩


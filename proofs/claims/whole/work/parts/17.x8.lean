/-! the parts of a load -/
/-- the lesser of two numbers of parts; -9 is none -/
def cmn (c x : Int) : Int := if x = -9 then c else if c = -9 then x else if x < c then x else c
/-- with a part of that weight first (E: its end) -/
def pv (E : Int → Int) (f : Int → Int) (v part : Int) : Int := if E part = 3 ∨ f (v - part) = -9 then -9 else f (v - part) + 1
def fdn (g : Int → Int → Int) : Nat → Int → Int
  | 0, c => c
  | k + 1, c => fdn g k (g (k + 1) c)
def gX (E : Int → Int) (r : Int) (f : Int → Int) (v : Int) : Int := fdn (fun part c => cmn c (pv E f v part)) (min v r).toNat (-9)
def dpT (G : (Int → Int) → Int → Int) : Nat → Int → Int
  | 0 => fun z => if z = 0 then 0 else -9
  | k + 1 => fun z => if z = k + 1 then G (dpT G k) (k + 1) else dpT G k z
def fl (P : Int → Int) : Nat → Int
  | 0 => -9
  | k + 1 => if P (k + 1) = 3 then k + 1 else fl P k
def xEn (μ : Mem) (s v : Int) : Int := EB (μ 19 s) (μ 20 s) (μ 14 s) v
def partA (E : Int → Int) (r : Int) (F : Int → Int) (load w : Int) : Int := if w = 0 ∨ F load = -9 then F load else fl (fun p => if ¬ E p = 3 ∧ F (load - p) = F load - 1 then 3 else 0) (min load r).toNat
theorem pv_bd {E f : Int → Int} {v part M : Int} (hf : -9 ≤ f (v - part) ∧ f (v - part) ≠ -1 ∧ f (v - part) ≤ M) (hM : 0 ≤ M) : -9 ≤ pv E f v part ∧ pv E f v part ≤ M + 1 := by unfold pv; split <;> omega
theorem cmn_bd {c x M : Int} (hc : -9 ≤ c ∧ c ≤ M) (hx : -9 ≤ x ∧ x ≤ M) : -9 ≤ cmn c x ∧ cmn c x ≤ M := by unfold cmn; (repeat' split) <;> omega
theorem fdn_bd {g : Int → Int → Int} {M : Int} : ∀ (k : Nat) (c : Int), (∀ (p c : Int), 1 ≤ p → p ≤ (k : Int) → -9 ≤ c ∧ c ≤ M → -9 ≤ g p c ∧ g p c ≤ M) → -9 ≤ c ∧ c ≤ M → -9 ≤ fdn g k c ∧ fdn g k c ≤ M
  | 0, _, _, h => h
  | k + 1, c, hg, h => by
    rw [fdn]
    exact fdn_bd k _ (fun p c a b => hg p c a (by omega)) (hg (k + 1) c (by omega) (by omega) h)
theorem fdn_congr {g g' : Int → Int → Int} : ∀ (k : Nat) (c : Int), (∀ (p c : Int), 1 ≤ p → p ≤ (k : Int) → g p c = g' p c) → fdn g k c = fdn g' k c
  | 0, _, _ => rfl
  | k + 1, c, h => by
    rw [fdn, fdn, h (k + 1) c (by omega) (by omega), fdn_congr k _ (fun p c a b => h p c a (by omega))]
theorem gX_congr {E : Int → Int} {r v : Int} {f f' : Int → Int} (h : ∀ z, 0 ≤ z → z < v → f z = f' z) : gX E r f v = gX E r f' v := by
  unfold gX
  refine fdn_congr _ _ (fun p c a b => ?_)
  unfold pv
  rw [h (v - p) (by omega) (by omega)]
theorem gX_bd {E : Int → Int} {r v : Int} {f : Int → Int} (hv : 1 ≤ v) (h : ∀ z, 0 ≤ z → z < v → -9 ≤ f z ∧ f z ≤ z ∧ f z ≠ -1) : -9 ≤ gX E r f v ∧ gX E r f v ≤ v := by
  unfold gX
  refine fdn_bd _ _ (fun p c a b hc => cmn_bd hc ?_) (by omega)
  have := h (v - p) (by omega) (by omega)
  have := pv_bd (E := E) (v := v) (part := p) (f := f) (M := v - 1) ⟨this.1, this.2.2, by omega⟩ (by omega)
  omega
theorem cmn_n1 {c x : Int} (hc : c ≠ -1) (hx : x ≠ -1) : cmn c x ≠ -1 := by unfold cmn; (repeat' split) <;> omega
theorem fdn_n1 {g : Int → Int → Int} : ∀ (k : Nat) (c : Int), (∀ (p c : Int), 1 ≤ p → p ≤ (k : Int) → c ≠ -1 → g p c ≠ -1) → c ≠ -1 → fdn g k c ≠ -1
  | 0, _, _, h => h
  | k + 1, c, hg, h => by
    rw [fdn]
    exact fdn_n1 k _ (fun p c a b => hg p c a (by omega)) (hg (k + 1) c (by omega) (by omega) h)
theorem gX_n1 {E : Int → Int} {r v : Int} {f : Int → Int} (h : ∀ z, 0 ≤ z → z < v → f z = -9 ∨ 0 ≤ f z) : gX E r f v ≠ -1 := by
  unfold gX
  refine fdn_n1 _ _ (fun p c a b hc => cmn_n1 hc ?_) (by omega)
  have := h (v - p) (by omega) (by omega)
  unfold pv
  split <;> omega
theorem gX_ge {E : Int → Int} {r v : Int} {f : Int → Int} (h : ∀ z, 0 ≤ z → z < v → f z = -9 ∨ 0 ≤ f z) : gX E r f v = -9 ∨ 0 ≤ gX E r f v := by
  unfold gX
  have key : ∀ (k : Nat) (c : Int), (k : Int) ≤ v → (c = -9 ∨ 0 ≤ c) → fdn (fun part c => cmn c (pv E f v part)) k c = -9 ∨ 0 ≤ fdn (fun part c => cmn c (pv E f v part)) k c := by
    intro k
    induction k with
    | zero => intro c _ h; exact h
    | succ k ih =>
      intro c hk hc
      rw [fdn]
      apply ih _ (by omega)
      have := h (v - (k + 1)) (by omega) (by omega)
      unfold cmn pv
      (repeat' split) <;> omega
  rcases Int.le_total 0 (min v r) with q | q
  · exact key _ _ (by omega) (Or.inl rfl)
  · have : (min v r).toNat = 0 := by omega
    rw [this]
    exact Or.inl rfl
theorem dpT_bd {E : Int → Int} {r : Int} : ∀ (k : Nat) (z : Int), 0 ≤ z → z ≤ k → -9 ≤ dpT (gX E r) k z ∧ dpT (gX E r) k z ≤ z ∧ (dpT (gX E r) k z = -9 ∨ 0 ≤ dpT (gX E r) k z)
  | 0, z, h0, h1 => by
    unfold dpT
    rw [if_pos (by omega)]
    omega
  | k + 1, z, h0, h1 => by
    unfold dpT
    by_cases hz : z = k + 1
    · rw [if_pos hz, hz]
      have b := fun y h0 (h1 : y < (k : Int) + 1) => dpT_bd (E := E) (r := r) k y h0 (by omega)
      have := gX_bd (E := E) (r := r) (v := (k : Int) + 1) (f := dpT (gX E r) k) (by omega) (fun y h0 h1 => by have := b y h0 h1; omega)
      have := gX_ge (E := E) (r := r) (v := (k : Int) + 1) (f := dpT (gX E r) k) (fun y h0 h1 => (b y h0 h1).2.2)
      omega
    · rw [if_neg hz]
      exact dpT_bd k z h0 (by omega)
theorem dpT_old {G : (Int → Int) → Int → Int} : ∀ (k m : Nat) (z : Int), z ≤ k → k ≤ m → dpT G m z = dpT G k z
  | k, 0, z, h0, h1 => by
    have : k = 0 := by omega
    rw [this]
  | k, m + 1, z, h0, h1 => by
    by_cases hk : k = m + 1
    · rw [hk]
    · rw [dpT]
      dsimp only
      rw [if_neg (by omega), dpT_old k m z h0 (by omega)]

set_option maxRecDepth 100000 in
set_option maxHeartbeats 4000000 in
theorem X6_fewestPartsOf (μ : Mem) (hB : XB μ) (v s : Int) (hs : 0 ≤ s ∧ s < μ 13 0) (hv : 1 ≤ v ∧ v ≤ 99) (hb : ∀ z : Int, 0 ≤ z → z < v → -9 ≤ μ 76 z ∧ μ 76 z ≤ z ∧ (μ 76 z = -9 ∨ 0 ≤ μ 76 z)) : CT TX md_X6_fewestPartsOf [aR 0, aI v, aI s] μ (fun rv μ1 => rv = some (aI (gX (xEn μ s) (μ 14 s) (μ 76) v)) ∧ μ = μ1) := by
  refine CT.of (Nat.le_of_ble_eq_true rfl) (by decide) rfl (Nat.le_of_ble_eq_true rfl) (fun X hG hX => ?_)
  have hG : G TX X RX6 cX6_fewestPartsOf 6 2 46 (some .int) := hG
  show J TX X 6 0 [some (aR 0), some (aI v), some (aI s), none, none, none] [] μ
  have hB2 := hB
  obtain ⟨h1, h2, h3, h4, h5, h6⟩ := hB2
  have q5 := h5 s hs.1 hs.2
  have lp : ∀ (k : Nat) (p c : Int), p = k → p ≤ v → p ≤ μ 14 s → (-9 ≤ c ∧ c ≤ v) → fdn (fun part c => cmn c (pv (xEn μ s) (μ 76) v part)) k c = gX (xEn μ s) (μ 14 s) (μ 76) v → J TX X 6 18 [some (aR 0), some (aI v), some (aI s), some (aI c), some (aI p), none] [] μ := by
    intro k
    induction k with
    | zero =>
      intro p c i0 i1 i2 i3 i4
      rw [fdn] at i4
      refine J.iload hG dX6_fewestPartsOf_18 rfl ?_
      refine J.iconst hG dX6_fewestPartsOf_20 (by decide) ?_
      refine J.icmp_lt hG 78 dX6_fewestPartsOf_21 rfl (fun h21 => ?_) (fun h21 => absurd h21 (by omega))
      refine J.iload_n hG dX6_fewestPartsOf_78 rfl rfl ?_
      refine J.iret hG dX6_fewestPartsOf_79 ?_
      rw [hX]; dsimp only
      exact ⟨by rw [← i4], rfl⟩
    | succ k ih =>
      intro p c i0 i1 i2 i3 i4
      rw [fdn] at i4
      have hf := hb (v - p) (by omega) (by omega)
      have hp : ((k : Int) + 1) = p := by omega
      rw [hp] at i4
      refine J.iload hG dX6_fewestPartsOf_18 rfl ?_
      refine J.iconst hG dX6_fewestPartsOf_20 (by decide) ?_
      refine J.icmp_lt hG 78 dX6_fewestPartsOf_21 rfl (fun h21 => absurd h21 (by omega)) (fun h21 => ?_)
      refine J.aload_n hG dX6_fewestPartsOf_24 rfl rfl ?_
      refine J.getR hG ciX6 rfl 9 9 rfl (Nat.le_of_ble_eq_true rfl) rfl fl_X6_63 dX6_fewestPartsOf_25 ?_
      refine J.iload_n hG dX6_fewestPartsOf_28 rfl rfl ?_
      refine J.iload hG dX6_fewestPartsOf_29 rfl ?_
      refine J.isub hG dX6_fewestPartsOf_31 (fun _ _ => (by omega)) ?_
      refine J.iald hG rfl (by omega) (by omega) dX6_fewestPartsOf_32 ?_
      refine J.istore hG dX6_fewestPartsOf_33 (Nat.le_of_ble_eq_true rfl) ?_
      refine J.aload_n hG dX6_fewestPartsOf_35 rfl rfl ?_
      refine J.iload_n hG dX6_fewestPartsOf_36 rfl rfl ?_
      refine J.iload hG dX6_fewestPartsOf_37 rfl ?_
      refine J.callV hG (X6_endOf _ _ _ (by omega) (by omega)) ok_X6_endOf ml_X6_135 rfl rfl rfl rfl (Nat.le_of_ble_eq_true rfl) ⟨Nat.le_of_ble_eq_true rfl, Nat.le_of_ble_eq_true rfl⟩ dX6_fewestPartsOf_39 rfl (fun r1 μ1 hp1 => ?_)
      obtain ⟨rfl, rfl⟩ := hp1
      refine J.iconst hG dX6_fewestPartsOf_42 (by decide) ?_
      refine J.icmp_eq hG 72 dX6_fewestPartsOf_43 rfl (fun h43 => ?_) (fun h43 => ?_)
      · refine J.iinc hG dX6_fewestPartsOf_72 (Nat.le_of_ble_eq_true rfl) rfl (fun _ => (by omega)) ?_
        refine J.goto hG 18 dX6_fewestPartsOf_75 rfl ?_
        first
          | (have e : cmn c (pv (xEn μ s) (μ 76) v p) = c := by unfold cmn pv xEn; rw [if_pos (by first | (rw [if_pos (Or.inl (by assumption))]) | (rw [if_pos (Or.inr (by assumption))]))]
             rw [e] at i4; exact J.drop 5 (ih (p + -1) c (by omega) (by omega) (by omega) i3 i4))
          | (have e : pv (xEn μ s) (μ 76) v p = μ 76 (v - p) + 1 := by unfold pv xEn; rw [if_neg (fun w => w.elim (by assumption) (by assumption))]
             have e2 : cmn c (pv (xEn μ s) (μ 76) v p) = μ 76 (v - p) + 1 := by unfold cmn; rw [e, if_neg (by omega)]; (repeat' split) <;> omega
             rw [e2] at i4; exact J.drop 5 (ih (p + -1) _ (by omega) (by omega) (by omega) (by omega) i4))
          | (have e : pv (xEn μ s) (μ 76) v p = μ 76 (v - p) + 1 := by unfold pv xEn; rw [if_neg (fun w => w.elim (by assumption) (by assumption))]
             have e2 : cmn c (pv (xEn μ s) (μ 76) v p) = c := by unfold cmn; rw [e, if_neg (by omega)]; (repeat' split) <;> omega
             rw [e2] at i4; exact J.drop 5 (ih (p + -1) c (by omega) (by omega) (by omega) i3 i4))
      · refine J.iload hG dX6_fewestPartsOf_46 rfl ?_
        refine J.bipush hG dX6_fewestPartsOf_48 (by decide) (by decide) ?_
        refine J.icmp_eq hG 72 dX6_fewestPartsOf_50 rfl (fun h50 => ?_) (fun h50 => ?_)
        · refine J.iinc hG dX6_fewestPartsOf_72 (Nat.le_of_ble_eq_true rfl) rfl (fun _ => (by omega)) ?_
          refine J.goto hG 18 dX6_fewestPartsOf_75 rfl ?_
          first
            | (have e : cmn c (pv (xEn μ s) (μ 76) v p) = c := by unfold cmn pv xEn; rw [if_pos (by first | (rw [if_pos (Or.inl (by assumption))]) | (rw [if_pos (Or.inr (by assumption))]))]
               rw [e] at i4; exact J.drop 5 (ih (p + -1) c (by omega) (by omega) (by omega) i3 i4))
            | (have e : pv (xEn μ s) (μ 76) v p = μ 76 (v - p) + 1 := by unfold pv xEn; rw [if_neg (fun w => w.elim (by assumption) (by assumption))]
               have e2 : cmn c (pv (xEn μ s) (μ 76) v p) = μ 76 (v - p) + 1 := by unfold cmn; rw [e, if_neg (by omega)]; (repeat' split) <;> omega
               rw [e2] at i4; exact J.drop 5 (ih (p + -1) _ (by omega) (by omega) (by omega) (by omega) i4))
            | (have e : pv (xEn μ s) (μ 76) v p = μ 76 (v - p) + 1 := by unfold pv xEn; rw [if_neg (fun w => w.elim (by assumption) (by assumption))]
               have e2 : cmn c (pv (xEn μ s) (μ 76) v p) = c := by unfold cmn; rw [e, if_neg (by omega)]; (repeat' split) <;> omega
               rw [e2] at i4; exact J.drop 5 (ih (p + -1) c (by omega) (by omega) (by omega) i3 i4))
        · refine J.iload_n hG dX6_fewestPartsOf_53 rfl rfl ?_
          refine J.bipush hG dX6_fewestPartsOf_54 (by decide) (by decide) ?_
          refine J.icmp_eq hG 67 dX6_fewestPartsOf_56 rfl (fun h56 => ?_) (fun h56 => ?_)
          · refine J.iload hG dX6_fewestPartsOf_67 rfl ?_
            refine J.iconst hG dX6_fewestPartsOf_69 (by decide) ?_
            refine J.iadd hG dX6_fewestPartsOf_70 (fun _ _ => (by omega)) ?_
            refine J.istore_n hG dX6_fewestPartsOf_71 rfl (Nat.le_of_ble_eq_true rfl) ?_
            refine J.iinc hG dX6_fewestPartsOf_72 (Nat.le_of_ble_eq_true rfl) rfl (fun _ => (by omega)) ?_
            refine J.goto hG 18 dX6_fewestPartsOf_75 rfl ?_
            first
              | (have e : cmn c (pv (xEn μ s) (μ 76) v p) = c := by unfold cmn pv xEn; rw [if_pos (by first | (rw [if_pos (Or.inl (by assumption))]) | (rw [if_pos (Or.inr (by assumption))]))]
                 rw [e] at i4; exact J.drop 5 (ih (p + -1) c (by omega) (by omega) (by omega) i3 i4))
              | (have e : pv (xEn μ s) (μ 76) v p = μ 76 (v - p) + 1 := by unfold pv xEn; rw [if_neg (fun w => w.elim (by assumption) (by assumption))]
                 have e2 : cmn c (pv (xEn μ s) (μ 76) v p) = μ 76 (v - p) + 1 := by unfold cmn; rw [e, if_neg (by omega)]; (repeat' split) <;> omega
                 rw [e2] at i4; exact J.drop 5 (ih (p + -1) _ (by omega) (by omega) (by omega) (by omega) i4))
              | (have e : pv (xEn μ s) (μ 76) v p = μ 76 (v - p) + 1 := by unfold pv xEn; rw [if_neg (fun w => w.elim (by assumption) (by assumption))]
                 have e2 : cmn c (pv (xEn μ s) (μ 76) v p) = c := by unfold cmn; rw [e, if_neg (by omega)]; (repeat' split) <;> omega
                 rw [e2] at i4; exact J.drop 5 (ih (p + -1) c (by omega) (by omega) (by omega) i3 i4))
          · refine J.iload hG dX6_fewestPartsOf_59 rfl ?_
            refine J.iconst hG dX6_fewestPartsOf_61 (by decide) ?_
            refine J.iadd hG dX6_fewestPartsOf_62 (fun _ _ => (by omega)) ?_
            refine J.iload_n hG dX6_fewestPartsOf_63 rfl rfl ?_
            refine J.icmp_ge hG 72 dX6_fewestPartsOf_64 rfl (fun h64 => ?_) (fun h64 => ?_)
            · refine J.iinc hG dX6_fewestPartsOf_72 (Nat.le_of_ble_eq_true rfl) rfl (fun _ => (by omega)) ?_
              refine J.goto hG 18 dX6_fewestPartsOf_75 rfl ?_
              first
                | (have e : cmn c (pv (xEn μ s) (μ 76) v p) = c := by unfold cmn pv xEn; rw [if_pos (by first | (rw [if_pos (Or.inl (by assumption))]) | (rw [if_pos (Or.inr (by assumption))]))]
                   rw [e] at i4; exact J.drop 5 (ih (p + -1) c (by omega) (by omega) (by omega) i3 i4))
                | (have e : pv (xEn μ s) (μ 76) v p = μ 76 (v - p) + 1 := by unfold pv xEn; rw [if_neg (fun w => w.elim (by assumption) (by assumption))]
                   have e2 : cmn c (pv (xEn μ s) (μ 76) v p) = μ 76 (v - p) + 1 := by unfold cmn; rw [e, if_neg (by omega)]; (repeat' split) <;> omega
                   rw [e2] at i4; exact J.drop 5 (ih (p + -1) _ (by omega) (by omega) (by omega) (by omega) i4))
                | (have e : pv (xEn μ s) (μ 76) v p = μ 76 (v - p) + 1 := by unfold pv xEn; rw [if_neg (fun w => w.elim (by assumption) (by assumption))]
                   have e2 : cmn c (pv (xEn μ s) (μ 76) v p) = c := by unfold cmn; rw [e, if_neg (by omega)]; (repeat' split) <;> omega
                   rw [e2] at i4; exact J.drop 5 (ih (p + -1) c (by omega) (by omega) (by omega) i3 i4))
            · refine J.iload hG dX6_fewestPartsOf_67 rfl ?_
              refine J.iconst hG dX6_fewestPartsOf_69 (by decide) ?_
              refine J.iadd hG dX6_fewestPartsOf_70 (fun _ _ => (by omega)) ?_
              refine J.istore_n hG dX6_fewestPartsOf_71 rfl (Nat.le_of_ble_eq_true rfl) ?_
              refine J.iinc hG dX6_fewestPartsOf_72 (Nat.le_of_ble_eq_true rfl) rfl (fun _ => (by omega)) ?_
              refine J.goto hG 18 dX6_fewestPartsOf_75 rfl ?_
              first
                | (have e : cmn c (pv (xEn μ s) (μ 76) v p) = c := by unfold cmn pv xEn; rw [if_pos (by first | (rw [if_pos (Or.inl (by assumption))]) | (rw [if_pos (Or.inr (by assumption))]))]
                   rw [e] at i4; exact J.drop 5 (ih (p + -1) c (by omega) (by omega) (by omega) i3 i4))
                | (have e : pv (xEn μ s) (μ 76) v p = μ 76 (v - p) + 1 := by unfold pv xEn; rw [if_neg (fun w => w.elim (by assumption) (by assumption))]
                   have e2 : cmn c (pv (xEn μ s) (μ 76) v p) = μ 76 (v - p) + 1 := by unfold cmn; rw [e, if_neg (by omega)]; (repeat' split) <;> omega
                   rw [e2] at i4; exact J.drop 5 (ih (p + -1) _ (by omega) (by omega) (by omega) (by omega) i4))
                | (have e : pv (xEn μ s) (μ 76) v p = μ 76 (v - p) + 1 := by unfold pv xEn; rw [if_neg (fun w => w.elim (by assumption) (by assumption))]
                   have e2 : cmn c (pv (xEn μ s) (μ 76) v p) = c := by unfold cmn; rw [e, if_neg (by omega)]; (repeat' split) <;> omega
                   rw [e2] at i4; exact J.drop 5 (ih (p + -1) c (by omega) (by omega) (by omega) i3 i4))
  refine J.bipush hG dX6_fewestPartsOf_0 (by decide) (by decide) ?_
  refine J.istore_n hG dX6_fewestPartsOf_2 rfl (Nat.le_of_ble_eq_true rfl) ?_
  refine J.iload_n hG dX6_fewestPartsOf_3 rfl rfl ?_
  refine J.aload_n hG dX6_fewestPartsOf_4 rfl rfl ?_
  refine J.getR hG ciX6 rfl 1 1 rfl (Nat.le_of_ble_eq_true rfl) rfl fl_X6_19 dX6_fewestPartsOf_5 ?_
  refine J.getR hG ciX1 rfl 4 4 rfl (Nat.le_of_ble_eq_true rfl) rfl fl_X6_112 dX6_fewestPartsOf_8 ?_
  refine J.iload_n hG dX6_fewestPartsOf_11 rfl rfl ?_
  refine J.iald hG rfl (by omega) (by omega) dX6_fewestPartsOf_12 ?_
  refine J.mmin hG ml_X6_252 (Nat.le_of_ble_eq_true rfl) (Nat.le_of_ble_eq_true rfl) dX6_fewestPartsOf_13 ?_
  refine J.istore hG dX6_fewestPartsOf_16 (Nat.le_of_ble_eq_true rfl) ?_
  exact lp (min v (μ 14 s)).toNat _ (-9) (by omega) (by omega) (by omega) (by omega) rfl

set_option maxRecDepth 100000 in
set_option maxHeartbeats 4000000 in
theorem X6_greatestPart (μ : Mem) (hB : XB μ) (v s : Int) (hs : 0 ≤ s ∧ s < μ 13 0) (hv : 1 ≤ v ∧ v ≤ 99) (hb : -9 ≤ μ 76 v ∧ μ 76 v ≤ 100) : CT TX md_X6_greatestPart [aR 0, aI v, aI s] μ (fun rv μ1 => rv = some (aI (fl (fun p => if ¬ xEn μ s p = 3 ∧ μ 76 (v - p) = μ 76 v - 1 then 3 else 0) (min v (μ 14 s)).toNat)) ∧ μ = μ1) := by
  refine CT.of (Nat.le_of_ble_eq_true rfl) (by decide) rfl (Nat.le_of_ble_eq_true rfl) (fun X hG hX => ?_)
  have hG : G TX X RX6 cX6_greatestPart 4 2 46 (some .int) := hG
  show J TX X 4 0 [some (aR 0), some (aI v), some (aI s), none] [] μ
  have hB2 := hB
  obtain ⟨h1, h2, h3, h4, h5, h6⟩ := hB2
  have q5 := h5 s hs.1 hs.2
  have lp : ∀ (k : Nat) (p : Int), p = k → p ≤ v → p ≤ μ 14 s → fl (fun p => if ¬ xEn μ s p = 3 ∧ μ 76 (v - p) = μ 76 v - 1 then 3 else 0) k = fl (fun p => if ¬ xEn μ s p = 3 ∧ μ 76 (v - p) = μ 76 v - 1 then 3 else 0) (min v (μ 14 s)).toNat → J TX X 4 14 [some (aR 0), some (aI v), some (aI s), some (aI p)] [] μ := by
    intro k
    induction k with
    | zero =>
      intro p i0 i1 i2 i4
      simp only [fl] at i4
      refine J.iload_n hG dX6_greatestPart_14 rfl rfl ?_
      refine J.iconst hG dX6_greatestPart_15 (by decide) ?_
      refine J.icmp_lt hG 56 dX6_greatestPart_16 rfl (fun h16 => ?_) (fun h16 => absurd h16 (by omega))
      refine J.bipush hG dX6_greatestPart_56 (by decide) (by decide) ?_
      refine J.iret hG dX6_greatestPart_58 ?_
      rw [hX]; dsimp only
      exact ⟨by rw [← i4], rfl⟩
    | succ k ih =>
      intro p i0 i1 i2 i4
      rw [fl] at i4
      have hp : ((k : Int) + 1) = p := by omega
      rw [hp] at i4
      refine J.iload_n hG dX6_greatestPart_14 rfl rfl ?_
      refine J.iconst hG dX6_greatestPart_15 (by decide) ?_
      refine J.icmp_lt hG 56 dX6_greatestPart_16 rfl (fun h16 => absurd h16 (by omega)) (fun h16 => ?_)
      refine J.aload_n hG dX6_greatestPart_19 rfl rfl ?_
      refine J.iload_n hG dX6_greatestPart_20 rfl rfl ?_
      refine J.iload_n hG dX6_greatestPart_21 rfl rfl ?_
      refine J.callV hG (X6_endOf _ _ _ (by omega) (by omega)) ok_X6_endOf ml_X6_135 rfl rfl rfl rfl (Nat.le_of_ble_eq_true rfl) ⟨Nat.le_of_ble_eq_true rfl, Nat.le_of_ble_eq_true rfl⟩ dX6_greatestPart_22 rfl (fun r1 μ1 hp1 => ?_)
      obtain ⟨rfl, rfl⟩ := hp1
      refine J.iconst hG dX6_greatestPart_25 (by decide) ?_
      refine J.icmp_eq hG 50 dX6_greatestPart_26 rfl (fun h26 => ?_) (fun h26 => ?_)
      · refine J.iinc hG dX6_greatestPart_50 (Nat.le_of_ble_eq_true rfl) rfl (fun _ => (by omega)) ?_
        refine J.goto hG 14 dX6_greatestPart_53 rfl ?_
        have e : ¬ (if ¬ xEn μ s p = 3 ∧ μ 76 (v - p) = μ 76 v - 1 then (3 : Int) else 0) = 3 := by rw [if_neg (fun w => by first | exact w.1 (by assumption) | omega)]; omega
        rw [if_neg e] at i4
        exact ih (p + -1) (by omega) (by omega) (by omega) i4
      · refine J.aload_n hG dX6_greatestPart_29 rfl rfl ?_
        refine J.getR hG ciX6 rfl 9 9 rfl (Nat.le_of_ble_eq_true rfl) rfl fl_X6_63 dX6_greatestPart_30 ?_
        refine J.iload_n hG dX6_greatestPart_33 rfl rfl ?_
        refine J.iload_n hG dX6_greatestPart_34 rfl rfl ?_
        refine J.isub hG dX6_greatestPart_35 (fun _ _ => (by omega)) ?_
        refine J.iald hG rfl (by omega) (by omega) dX6_greatestPart_36 ?_
        refine J.aload_n hG dX6_greatestPart_37 rfl rfl ?_
        refine J.getR hG ciX6 rfl 9 9 rfl (Nat.le_of_ble_eq_true rfl) rfl fl_X6_63 dX6_greatestPart_38 ?_
        refine J.iload_n hG dX6_greatestPart_41 rfl rfl ?_
        refine J.iald hG rfl (by omega) (by omega) dX6_greatestPart_42 ?_
        refine J.iconst hG dX6_greatestPart_43 (by decide) ?_
        refine J.isub hG dX6_greatestPart_44 (fun _ _ => (by omega)) ?_
        refine J.icmp_ne hG 50 dX6_greatestPart_45 rfl (fun h45 => ?_) (fun h45 => ?_)
        · refine J.iinc hG dX6_greatestPart_50 (Nat.le_of_ble_eq_true rfl) rfl (fun _ => (by omega)) ?_
          refine J.goto hG 14 dX6_greatestPart_53 rfl ?_
          have e : ¬ (if ¬ xEn μ s p = 3 ∧ μ 76 (v - p) = μ 76 v - 1 then (3 : Int) else 0) = 3 := by rw [if_neg (fun w => by first | exact w.1 (by assumption) | omega)]; omega
          rw [if_neg e] at i4
          exact ih (p + -1) (by omega) (by omega) (by omega) i4
        · refine J.iload_n hG dX6_greatestPart_48 rfl rfl ?_
          refine J.iret hG dX6_greatestPart_49 ?_
          rw [hX]; dsimp only
          have e : (if ¬ xEn μ s p = 3 ∧ μ 76 (v - p) = μ 76 v - 1 then (3 : Int) else 0) = 3 := if_pos ⟨by assumption, by omega⟩
          rw [if_pos e] at i4
          exact ⟨by rw [← i4], rfl⟩
  refine J.iload_n hG dX6_greatestPart_0 rfl rfl ?_
  refine J.aload_n hG dX6_greatestPart_1 rfl rfl ?_
  refine J.getR hG ciX6 rfl 1 1 rfl (Nat.le_of_ble_eq_true rfl) rfl fl_X6_19 dX6_greatestPart_2 ?_
  refine J.getR hG ciX1 rfl 4 4 rfl (Nat.le_of_ble_eq_true rfl) rfl fl_X6_112 dX6_greatestPart_5 ?_
  refine J.iload_n hG dX6_greatestPart_8 rfl rfl ?_
  refine J.iald hG rfl (by omega) (by omega) dX6_greatestPart_9 ?_
  refine J.mmin hG ml_X6_252 (Nat.le_of_ble_eq_true rfl) (Nat.le_of_ble_eq_true rfl) dX6_greatestPart_10 ?_
  refine J.istore_n hG dX6_greatestPart_13 rfl (Nat.le_of_ble_eq_true rfl) ?_
  exact lp (min v (μ 14 s)).toNat _ (by omega) (by omega) (by omega) rfl

theorem fl_congr {P P' : Int → Int} : ∀ (k : Nat), (∀ (p : Int), 1 ≤ p → p ≤ (k : Int) → P p = P' p) → fl P k = fl P' k
  | 0, _ => rfl
  | k + 1, h => by
    rw [fl, fl, h (k + 1) (by omega) (by omega), fl_congr k (fun p a b => h p a (by omega))]

set_option maxRecDepth 100000 in
set_option maxHeartbeats 4000000 in
theorem X6_parts (μ : Mem) (hB : XB μ) (s d w : Int) : CT TX md_X6_parts [aR 0, aI s, aI d, aI w] μ (fun rv μ1 => XFr 76 μ μ1 ∧ rv = some (aI (if (0 ≤ s ∧ s < μ 13 0) ∧ (1 ≤ d ∧ d ≤ 99) ∧ (0 ≤ w ∧ w ≤ 1) then partA (xEn μ s) (μ 14 s) (dpT (gX (xEn μ s) (μ 14 s)) d.toNat) d w else -1))) := by
  refine CT.of (Nat.le_of_ble_eq_true rfl) (by decide) rfl (Nat.le_of_ble_eq_true rfl) (fun X hG hX => ?_)
  have hG : G TX X RX6 cX6_parts 5 3 71 (some .int) := hG
  show J TX X 5 0 [some (aR 0), some (aI s), some (aI d), some (aI w), none] [] μ
  have hB2 := hB
  obtain ⟨h1, h2, h3, h4, h5, h6⟩ := hB2
  refine J.aload_n hG dX6_parts_0 rfl rfl ?_
  refine J.getR hG ciX6 rfl 1 1 rfl (Nat.le_of_ble_eq_true rfl) rfl fl_X6_19 dX6_parts_1 ?_
  refine J.iload_n hG dX6_parts_4 rfl rfl ?_
  refine J.callV hG (X1_hasScale _ _) ok_X1_hasScale ml_X6_106 rfl rfl rfl rfl (Nat.le_of_ble_eq_true rfl) ⟨Nat.le_of_ble_eq_true rfl, Nat.le_of_ble_eq_true rfl⟩ dX6_parts_5 rfl (fun r1 μ1 hp1 => ?_)
  obtain ⟨rfl, rfl⟩ := hp1
  refine J.ifb_eq hG 30 dX6_parts_8 rfl (fun h8 => ?_) (fun h8 => ?_)
  · refine J.iconst hG dX6_parts_30 (by decide) ?_
    refine J.iret hG dX6_parts_31 ?_
    rw [hX]; dsimp only
    exact ⟨fun _ _ => rfl, by rw [if_neg (by omega)]⟩
  · refine J.iload_n hG dX6_parts_11 rfl rfl ?_
    refine J.iconst hG dX6_parts_12 (by decide) ?_
    refine J.bipush hG dX6_parts_13 (by decide) (by decide) ?_
    refine J.callS hG (X6_within _ _ _ _) ok_X6_within ml_X6_70 rfl (Nat.le_of_ble_eq_true rfl) ⟨Nat.le_of_ble_eq_true rfl, Nat.le_of_ble_eq_true rfl⟩ dX6_parts_15 rfl (fun r1 μ1 hp1 => ?_)
    obtain ⟨rfl, rfl⟩ := hp1
    refine J.ifb_eq hG 30 dX6_parts_18 rfl (fun h18 => ?_) (fun h18 => ?_)
    · refine J.iconst hG dX6_parts_30 (by decide) ?_
      refine J.iret hG dX6_parts_31 ?_
      rw [hX]; dsimp only
      exact ⟨fun _ _ => rfl, by rw [if_neg (by omega)]⟩
    · refine J.iload_n hG dX6_parts_21 rfl rfl ?_
      refine J.iconst hG dX6_parts_22 (by decide) ?_
      refine J.iconst hG dX6_parts_23 (by decide) ?_
      refine J.callS hG (X6_within _ _ _ _) ok_X6_within ml_X6_70 rfl (Nat.le_of_ble_eq_true rfl) ⟨Nat.le_of_ble_eq_true rfl, Nat.le_of_ble_eq_true rfl⟩ dX6_parts_24 rfl (fun r1 μ1 hp1 => ?_)
      obtain ⟨rfl, rfl⟩ := hp1
      refine J.ifb_ne hG 32 dX6_parts_27 rfl (fun h27 => ?_) (fun h27 => ?_)
      · refine J.aload_n hG dX6_parts_32 rfl rfl ?_
        refine J.getR hG ciX6 rfl 9 9 rfl (Nat.le_of_ble_eq_true rfl) rfl fl_X6_63 dX6_parts_33 ?_
        refine J.iconst hG dX6_parts_36 (by decide) ?_
        refine J.iconst hG dX6_parts_37 (by decide) ?_
        refine J.iast hG rfl (by omega) (by omega) dX6_parts_38 ?_
        refine J.iconst hG dX6_parts_39 (by decide) ?_
        refine J.istore hG dX6_parts_40 (Nat.le_of_ble_eq_true rfl) ?_
        have q5 := h5 s (by omega) (by omega)
        have lp : ∀ (k : Nat) (v : Int) (ν : Mem), 1 ≤ v → v + k = d + 1 → (XFr 76 μ ν) → (∀ z : Int, 0 ≤ z → z < v → ν 76 z = dpT (gX (xEn μ s) (μ 14 s)) (v - 1).toNat z) → J TX X 5 42 [some (aR 0), some (aI s), some (aI d), some (aI w), some (aI v)] [] ν := by
          intro k
          induction k with
          | zero =>
            intro v ν i0 i1 hF hA
            have e13 : ν 13 = μ 13 := hF 13 (by decide)
            have e14 : ν 14 = μ 14 := hF 14 (by decide)
            have eE : xEn ν s = xEn μ s := by funext v; unfold xEn; rw [hF 19 (by decide), hF 20 (by decide), e14]
            have bd : ∀ z : Int, 0 ≤ z → z < v → -9 ≤ ν 76 z ∧ ν 76 z ≤ z ∧ (ν 76 z = -9 ∨ 0 ≤ ν 76 z) := fun z a b => by rw [hA z a b]; exact dpT_bd (v - 1).toNat z a (by omega)
            have hv : v = d + 1 := by omega
            subst hv
            have hA2 : ∀ z : Int, 0 ≤ z → z ≤ d → ν 76 z = dpT (gX (xEn μ s) (μ 14 s)) d.toNat z := fun z a b => by rw [hA z a (by omega), show (d + 1 - 1).toNat = d.toNat by omega]
            have ed := hA2 d (by omega) (by omega)
            have bdd := bd d (by omega) (by omega)
            refine J.iload hG dX6_parts_42 rfl ?_
            refine J.iload_n hG dX6_parts_44 rfl rfl ?_
            refine J.icmp_gt hG 68 dX6_parts_45 rfl (fun h45 => ?_) (fun h45 => absurd h45 (by omega))
            refine J.iload_n hG dX6_parts_68 rfl rfl ?_
            refine J.if_eq hG 83 dX6_parts_69 rfl (fun h69 => ?_) (fun h69 => ?_)
            · refine J.aload_n hG dX6_parts_83 rfl rfl ?_
              refine J.getR hG ciX6 rfl 9 9 rfl (Nat.le_of_ble_eq_true rfl) rfl fl_X6_63 dX6_parts_84 ?_
              refine J.iload_n hG dX6_parts_87 rfl rfl ?_
              refine J.iald hG rfl (by omega) (by omega) dX6_parts_88 ?_
              refine J.iret hG dX6_parts_89 ?_
              rw [hX]; dsimp only
              exact ⟨hF, by rw [if_pos (by omega), partA, if_pos (by omega), ed]⟩
            · refine J.aload_n hG dX6_parts_72 rfl rfl ?_
              refine J.getR hG ciX6 rfl 9 9 rfl (Nat.le_of_ble_eq_true rfl) rfl fl_X6_63 dX6_parts_73 ?_
              refine J.iload_n hG dX6_parts_76 rfl rfl ?_
              refine J.iald hG rfl (by omega) (by omega) dX6_parts_77 ?_
              refine J.bipush hG dX6_parts_78 (by decide) (by decide) ?_
              refine J.icmp_ne hG 90 dX6_parts_80 rfl (fun h80 => ?_) (fun h80 => ?_)
              · refine J.aload_n hG dX6_parts_90 rfl rfl ?_
                refine J.iload_n hG dX6_parts_91 rfl rfl ?_
                refine J.iload_n hG dX6_parts_92 rfl rfl ?_
                refine J.callV hG (X6_greatestPart _ (XB_fr (by decide) hB hF) _ _ (by rw [e13]; omega) (by omega) (by omega)) ok_X6_greatestPart ml_X6_210 rfl rfl rfl rfl (Nat.le_of_ble_eq_true rfl) ⟨Nat.le_of_ble_eq_true rfl, Nat.le_of_ble_eq_true rfl⟩ dX6_parts_93 rfl (fun r1 μ1 hp1 => ?_)
                obtain ⟨rfl, rfl⟩ := hp1
                refine J.iret hG dX6_parts_96 ?_
                rw [hX]; dsimp only
                refine ⟨hF, ?_⟩
                rw [if_pos (by omega), partA, if_neg (by omega), e14, eE]
                congr 2
                refine fl_congr _ (fun p a b => ?_)
                rw [hA2 (d - p) (by omega) (by omega), ed]
              · refine J.aload_n hG dX6_parts_83 rfl rfl ?_
                refine J.getR hG ciX6 rfl 9 9 rfl (Nat.le_of_ble_eq_true rfl) rfl fl_X6_63 dX6_parts_84 ?_
                refine J.iload_n hG dX6_parts_87 rfl rfl ?_
                refine J.iald hG rfl (by omega) (by omega) dX6_parts_88 ?_
                refine J.iret hG dX6_parts_89 ?_
                rw [hX]; dsimp only
                exact ⟨hF, by rw [if_pos (by omega), partA, if_pos (by omega), ed]⟩
          | succ k ih =>
            intro v ν i0 i1 hF hA
            have e13 : ν 13 = μ 13 := hF 13 (by decide)
            have e14 : ν 14 = μ 14 := hF 14 (by decide)
            have eE : xEn ν s = xEn μ s := by funext v; unfold xEn; rw [hF 19 (by decide), hF 20 (by decide), e14]
            have bd : ∀ z : Int, 0 ≤ z → z < v → -9 ≤ ν 76 z ∧ ν 76 z ≤ z ∧ (ν 76 z = -9 ∨ 0 ≤ ν 76 z) := fun z a b => by rw [hA z a b]; exact dpT_bd (v - 1).toNat z a (by omega)
            refine J.iload hG dX6_parts_42 rfl ?_
            refine J.iload_n hG dX6_parts_44 rfl rfl ?_
            refine J.icmp_gt hG 68 dX6_parts_45 rfl (fun h45 => absurd h45 (by omega)) (fun h45 => ?_)
            refine J.aload_n hG dX6_parts_48 rfl rfl ?_
            refine J.getR hG ciX6 rfl 9 9 rfl (Nat.le_of_ble_eq_true rfl) rfl fl_X6_63 dX6_parts_49 ?_
            refine J.iload hG dX6_parts_52 rfl ?_
            refine J.aload_n hG dX6_parts_54 rfl rfl ?_
            refine J.iload hG dX6_parts_55 rfl ?_
            refine J.iload_n hG dX6_parts_57 rfl rfl ?_
            refine J.callV hG (X6_fewestPartsOf _ (XB_fr (by decide) hB hF) _ _ (by rw [e13]; omega) (by omega) bd) ok_X6_fewestPartsOf ml_X6_207 rfl rfl rfl rfl (Nat.le_of_ble_eq_true rfl) ⟨Nat.le_of_ble_eq_true rfl, Nat.le_of_ble_eq_true rfl⟩ dX6_parts_58 rfl (fun r1 μ1 hp1 => ?_)
            obtain ⟨rfl, rfl⟩ := hp1
            refine J.iast hG rfl (by omega) (by omega) dX6_parts_61 ?_
            refine J.iinc hG dX6_parts_62 (Nat.le_of_ble_eq_true rfl) rfl (fun _ => (by omega)) ?_
            refine J.goto hG 42 dX6_parts_65 rfl ?_
            refine ih (v + 1) _ (by omega) (by omega) (XFr_up hF _ _) (fun z a b => ?_)
            by_cases hz : z = v
            · rw [hz, up_self, eE, e14, gX_congr (fun y a b => hA y a b)]
              have e : (v + 1 - 1).toNat = (v - 1).toNat + 1 := by omega
              rw [e, dpT]
              dsimp only
              rw [if_pos (by omega)]
              congr 1
              omega
            · rw [up_ne _ (fun w => hz w.2), hA z a (by omega)]
              exact (dpT_old _ _ z (by omega) (by omega)).symm
        exact lp d.toNat 1 _ (Int.le_refl _) (by omega) (XFr_up (fun _ _ => rfl) _ _) (fun z a b => by rw [show z = 0 by omega, up_self]; rfl)
      · refine J.iconst hG dX6_parts_30 (by decide) ?_
        refine J.iret hG dX6_parts_31 ?_
        rw [hX]; dsimp only
        exact ⟨fun _ _ => rfl, by rw [if_neg (by omega)]⟩


/-! what a text tells, over the tokens: a fault's place, or the memory behind it -/
abbrev Rs : Type := Int ⊕ Mem
def numS (lo hi : Int) (σ : Mem) (k : Int → Mem → Rs) : Rs := if lo ≤ σ 11 (σ 1 6) ∧ σ 11 (σ 1 6) ≤ hi then k (σ 11 (σ 1 6)) (up σ 1 6 (σ 1 6 + 1)) else .inl (σ 12 (σ 1 6))
theorem numS_ok {lo hi : Int} {σ : Mem} {k : Int → Mem → Rs} (h : lo ≤ σ 11 (σ 1 6) ∧ σ 11 (σ 1 6) ≤ hi) : numS lo hi σ k = k (σ 11 (σ 1 6)) (up σ 1 6 (σ 1 6 + 1)) := by unfold numS; rw [if_pos h]
theorem numS_no {lo hi : Int} {σ : Mem} {k : Int → Mem → Rs} (h : ¬ (lo ≤ σ 11 (σ 1 6) ∧ σ 11 (σ 1 6) ≤ hi)) : numS lo hi σ k = .inl (σ 12 (σ 1 6)) := by unfold numS; rw [if_neg h]
def bnd (r : Rs) (k : Mem → Rs) : Rs := match r with
  | .inl f => .inl f
  | .inr τ => k τ
def incr (σ : Mem) (c : Nat) (j : Int) : Mem := up σ c j (σ c j + 1)
def scaleS (σ : Mem) : Rs := numS 0 3 σ fun a σ1 => numS 2 30 (up σ1 8 (σ 2 0) a) fun b σ2 => numS 1 (up σ2 3 (σ 2 0) b 3 (σ 2 0)) (up σ2 3 (σ 2 0) b) fun c σ3 => .inr (incr (up σ3 9 (σ 2 0) c) 2 0)
def lifeS : Nat → Int → Mem → Rs
  | 0, _, σ => .inr (incr σ 2 1)
  | n + 1, s, σ => numS 0 (σ 3 s) σ fun a σ1 => numS 0 6 (up σ1 7 (σ 2 1 * 4 + s) a) fun b σ2 => lifeS n (s + 1) (up σ2 4 (σ 2 1 * 4 + s) (b - 3))
def semS (σ : Mem) : Rs := if σ 11 (σ 1 6) = -59 then .inr (incr (up σ 1 6 (σ 1 6 + 1)) 1 7) else .inl (σ 12 (σ 1 6))
def mayS (σ : Mem) (c : Int) : Int := if c = 115 then (if σ 2 1 = 0 ∧ σ 2 0 < 4 then 1 else 0) else if c = 108 then (if σ 2 1 < 4 then 1 else 0) else if c = 100 then (if σ 1 9 = 0 then 1 else 0) else if c = 112 then (if σ 2 2 < 8 then 1 else 0) else 0
def bodyS (σ : Mem) (c : Int) : Rs := if c = 115 then scaleS σ else if c = 108 then lifeS (σ 2 0).toNat 0 σ else if c = 100 then numS 0 9 (up σ 1 9 1) (fun a σ2 => .inr (up σ2 2 3 a)) else numS 0 60 σ (fun a σ2 => .inr (incr (up σ2 5 (σ 2 2) a) 2 2))
def itemS (σ : Mem) : Rs := if mayS σ (-σ 11 (σ 1 6)) = 1 then bnd (bodyS (incr σ 1 6) (-σ 11 (σ 1 6))) semS else .inl (σ 12 (σ 1 6))
def loopS : Nat → Mem → Rs
  | 0, σ => .inr σ
  | k + 1, σ => if σ 11 (σ 1 6) = -2 then .inr σ else (match itemS σ with
    | .inl f => .inl f
    | .inr σ' => loopS k σ')
theorem u1_2 (σ : Mem) (j x : Int) : up σ 2 j x 1 = σ 1 := up_cell _ _ _ (by decide)
theorem u1_3 (σ : Mem) (j x : Int) : up σ 3 j x 1 = σ 1 := up_cell _ _ _ (by decide)
theorem u1_4 (σ : Mem) (j x : Int) : up σ 4 j x 1 = σ 1 := up_cell _ _ _ (by decide)
theorem u1_5 (σ : Mem) (j x : Int) : up σ 5 j x 1 = σ 1 := up_cell _ _ _ (by decide)
theorem u1_7 (σ : Mem) (j x : Int) : up σ 7 j x 1 = σ 1 := up_cell _ _ _ (by decide)
theorem u1_8 (σ : Mem) (j x : Int) : up σ 8 j x 1 = σ 1 := up_cell _ _ _ (by decide)
theorem u1_9 (σ : Mem) (j x : Int) : up σ 9 j x 1 = σ 1 := up_cell _ _ _ (by decide)
theorem u2_1 (σ : Mem) (j x : Int) : up σ 1 j x 2 = σ 2 := up_cell _ _ _ (by decide)
theorem u2_3 (σ : Mem) (j x : Int) : up σ 3 j x 2 = σ 2 := up_cell _ _ _ (by decide)
theorem u2_4 (σ : Mem) (j x : Int) : up σ 4 j x 2 = σ 2 := up_cell _ _ _ (by decide)
theorem u2_5 (σ : Mem) (j x : Int) : up σ 5 j x 2 = σ 2 := up_cell _ _ _ (by decide)
theorem u2_7 (σ : Mem) (j x : Int) : up σ 7 j x 2 = σ 2 := up_cell _ _ _ (by decide)
theorem u2_8 (σ : Mem) (j x : Int) : up σ 8 j x 2 = σ 2 := up_cell _ _ _ (by decide)
theorem u2_9 (σ : Mem) (j x : Int) : up σ 9 j x 2 = σ 2 := up_cell _ _ _ (by decide)
theorem u3_1 (σ : Mem) (j x : Int) : up σ 1 j x 3 = σ 3 := up_cell _ _ _ (by decide)
theorem u3_2 (σ : Mem) (j x : Int) : up σ 2 j x 3 = σ 3 := up_cell _ _ _ (by decide)
theorem u3_4 (σ : Mem) (j x : Int) : up σ 4 j x 3 = σ 3 := up_cell _ _ _ (by decide)
theorem u3_5 (σ : Mem) (j x : Int) : up σ 5 j x 3 = σ 3 := up_cell _ _ _ (by decide)
theorem u3_7 (σ : Mem) (j x : Int) : up σ 7 j x 3 = σ 3 := up_cell _ _ _ (by decide)
theorem u3_8 (σ : Mem) (j x : Int) : up σ 8 j x 3 = σ 3 := up_cell _ _ _ (by decide)
theorem u3_9 (σ : Mem) (j x : Int) : up σ 9 j x 3 = σ 3 := up_cell _ _ _ (by decide)
theorem u11_1 (σ : Mem) (j x : Int) : up σ 1 j x 11 = σ 11 := up_cell _ _ _ (by decide)
theorem u11_2 (σ : Mem) (j x : Int) : up σ 2 j x 11 = σ 11 := up_cell _ _ _ (by decide)
theorem u11_3 (σ : Mem) (j x : Int) : up σ 3 j x 11 = σ 11 := up_cell _ _ _ (by decide)
theorem u11_4 (σ : Mem) (j x : Int) : up σ 4 j x 11 = σ 11 := up_cell _ _ _ (by decide)
theorem u11_5 (σ : Mem) (j x : Int) : up σ 5 j x 11 = σ 11 := up_cell _ _ _ (by decide)
theorem u11_7 (σ : Mem) (j x : Int) : up σ 7 j x 11 = σ 11 := up_cell _ _ _ (by decide)
theorem u11_8 (σ : Mem) (j x : Int) : up σ 8 j x 11 = σ 11 := up_cell _ _ _ (by decide)
theorem u11_9 (σ : Mem) (j x : Int) : up σ 9 j x 11 = σ 11 := up_cell _ _ _ (by decide)
theorem u12_1 (σ : Mem) (j x : Int) : up σ 1 j x 12 = σ 12 := up_cell _ _ _ (by decide)
theorem u12_2 (σ : Mem) (j x : Int) : up σ 2 j x 12 = σ 12 := up_cell _ _ _ (by decide)
theorem u12_3 (σ : Mem) (j x : Int) : up σ 3 j x 12 = σ 12 := up_cell _ _ _ (by decide)
theorem u12_4 (σ : Mem) (j x : Int) : up σ 4 j x 12 = σ 12 := up_cell _ _ _ (by decide)
theorem u12_5 (σ : Mem) (j x : Int) : up σ 5 j x 12 = σ 12 := up_cell _ _ _ (by decide)
theorem u12_7 (σ : Mem) (j x : Int) : up σ 7 j x 12 = σ 12 := up_cell _ _ _ (by decide)
theorem u12_8 (σ : Mem) (j x : Int) : up σ 8 j x 12 = σ 12 := up_cell _ _ _ (by decide)
theorem u12_9 (σ : Mem) (j x : Int) : up σ 9 j x 12 = σ 12 := up_cell _ _ _ (by decide)
/-- what stands fast while a text is read -/
def PI (m : Nat) (σ : Mem) : Prop := ((m : Int) ≤ 200 ∧ σ 11 m = -2 ∧ ∀ j : Int, 0 ≤ j → j ≤ m → (-255 ≤ σ 11 j ∧ σ 11 j ≤ 99) ∧ (0 ≤ σ 12 j ∧ σ 12 j ≤ 200)) ∧ (0 ≤ σ 1 6 ∧ σ 1 6 ≤ m) ∧ (0 ≤ σ 2 0 ∧ σ 2 0 ≤ 4) ∧ (0 ≤ σ 2 1 ∧ σ 2 1 ≤ 4) ∧ (0 ≤ σ 2 2 ∧ σ 2 2 ≤ 8) ∧ (∀ s : Int, 0 ≤ s → s < σ 2 0 → 2 ≤ σ 3 s ∧ σ 3 s ≤ 30) ∧ (σ 1 9 = 0 ∨ σ 1 9 = 1)
theorem PI_w {m : Nat} {σ : Mem} (h : PI m σ) (c : Nat) (j x : Int) (hc : c ≠ 1 ∧ c ≠ 2 ∧ c ≠ 3 ∧ c ≠ 11 ∧ c ≠ 12) : PI m (up σ c j x) := by
  unfold PI
  rw [up_cell _ _ _ (Ne.symm hc.1), up_cell _ _ _ (Ne.symm hc.2.1), up_cell _ _ _ (Ne.symm hc.2.2.1), up_cell _ _ _ (Ne.symm hc.2.2.2.1), up_cell _ _ _ (Ne.symm hc.2.2.2.2)]
  exact h
theorem PI_1 {m : Nat} {σ : Mem} (h : PI m σ) (j x : Int) (h6 : j = 6 → 0 ≤ x ∧ x ≤ m) (h9 : j = 9 → x = 0 ∨ x = 1) : PI m (up σ 1 j x) := by
  unfold PI
  rw [up_cell _ _ _ (show (2 : Nat) ≠ 1 by decide), up_cell _ _ _ (show (3 : Nat) ≠ 1 by decide), up_cell _ _ _ (show (11 : Nat) ≠ 1 by decide), up_cell _ _ _ (show (12 : Nat) ≠ 1 by decide)]
  refine ⟨h.1, ?_, h.2.2.1, h.2.2.2.1, h.2.2.2.2.1, h.2.2.2.2.2.1, ?_⟩
  · by_cases e : j = 6
    · subst e; rw [up_self]; exact h6 rfl
    · rw [up_ne _ (fun w => e w.2.symm)]; exact h.2.1
  · by_cases e : j = 9
    · subst e; rw [up_self]; exact h9 rfl
    · rw [up_ne _ (fun w => e w.2.symm)]; exact h.2.2.2.2.2.2
theorem PI_rg {m : Nat} {σ : Mem} (h : PI m σ) (x : Int) : PI m (up σ 3 (σ 2 0) x) := by
  unfold PI
  rw [up_cell _ _ _ (show (1 : Nat) ≠ 3 by decide), up_cell _ _ _ (show (2 : Nat) ≠ 3 by decide), up_cell _ _ _ (show (11 : Nat) ≠ 3 by decide), up_cell _ _ _ (show (12 : Nat) ≠ 3 by decide)]
  refine ⟨h.1, h.2.1, h.2.2.1, h.2.2.2.1, h.2.2.2.2.1, fun s a b => ?_, h.2.2.2.2.2.2⟩
  rw [up_ne _ (fun w => by omega)]
  exact h.2.2.2.2.2.1 s a b
theorem PI_2 {m : Nat} {σ : Mem} (h : PI m σ) (j x : Int) (h0 : j = 0 → x = σ 2 0 + 1 ∧ x ≤ 4 ∧ 2 ≤ σ 3 (σ 2 0) ∧ σ 3 (σ 2 0) ≤ 30) (h1 : j = 1 → 0 ≤ x ∧ x ≤ 4) (h2 : j = 2 → 0 ≤ x ∧ x ≤ 8) : PI m (up σ 2 j x) := by
  unfold PI
  rw [up_cell _ _ _ (show (1 : Nat) ≠ 2 by decide), up_cell _ _ _ (show (3 : Nat) ≠ 2 by decide), up_cell _ _ _ (show (11 : Nat) ≠ 2 by decide), up_cell _ _ _ (show (12 : Nat) ≠ 2 by decide)]
  have hh := h.2.2
  refine ⟨h.1, h.2.1, ?_, ?_, ?_, ?_, h.2.2.2.2.2.2⟩
  · by_cases e : j = 0
    · subst e; rw [up_self]; have := h0 rfl; omega
    · rw [up_ne _ (fun w => e w.2.symm)]; exact h.2.2.1
  · by_cases e : j = 1
    · subst e; rw [up_self]; exact h1 rfl
    · rw [up_ne _ (fun w => e w.2.symm)]; exact h.2.2.2.1
  · by_cases e : j = 2
    · subst e; rw [up_self]; exact h2 rfl
    · rw [up_ne _ (fun w => e w.2.symm)]; exact h.2.2.2.2.1
  · intro s a b
    by_cases e : j = 0
    · subst e
      rw [up_self] at b
      have h9 := h0 rfl
      by_cases es : s = σ 2 0
      · rw [es]; exact h9.2.2
      · exact h.2.2.2.2.2.1 s a (by omega)
    · rw [up_ne _ (fun w => e w.2.symm)] at b
      exact h.2.2.2.2.2.1 s a b
/-- a memory that a fault leaves: only the text's own cells differ -/
def Bad (μ μ1 : Mem) : Prop := (∀ c : Nat, (c = 0 ∨ c = 6 ∨ 9 < c) → μ1 c = μ c) ∧ μ1 1 0 = μ 1 0 ∧ (0 ≤ μ1 1 6 ∧ μ1 1 6 ≤ 200) ∧ μ1 1 7 = μ 1 7 ∧ 0 ≤ μ1 1 8 ∧ μ1 1 8 ≤ 200
theorem Bad_w {μ ν : Mem} (h : Bad μ ν) (c : Nat) (j x : Int) (hc : c ≠ 6 ∧ 2 ≤ c ∧ c ≤ 9) : Bad μ (up ν c j x) := by
  unfold Bad
  rw [up_cell _ _ _ (show (1 : Nat) ≠ c by omega)]
  exact ⟨fun d hd => by rw [up_cell _ _ _ (by omega)]; exact h.1 d hd, h.2⟩
theorem Bad_i {μ : Mem} (x : Int) (h6 : 0 ≤ μ 1 6 ∧ μ 1 6 ≤ 200) (hx : 0 ≤ x ∧ x ≤ 200) : Bad μ (up μ 1 8 x) := ⟨fun c hc => up_cell _ _ _ (by omega), up_ne _ (by decide), by rw [up_ne _ (by decide)]; exact h6, up_ne _ (by decide), by rw [up_self]; exact hx.1, by rw [up_self]; exact hx.2⟩
theorem Bad_tr {μ ν ν1 : Mem} (h : Bad ν ν1) (h1 : ∀ c : Nat, (c = 0 ∨ c = 6 ∨ 9 < c) → ν c = μ c) (h2 : ν 1 0 = μ 1 0) (h3 : ν 1 7 = μ 1 7) : Bad μ ν1 := ⟨fun c hc => by rw [h.1 c hc, h1 c hc], by rw [h.2.1, h2], h.2.2.1, by rw [h.2.2.2.1, h3], h.2.2.2.2⟩

set_option maxRecDepth 100000 in
set_option maxHeartbeats 4000000 in
theorem X5_takes_t (μ : Mem) (h8 : μ 1 8 = -1) (h6 : 0 ≤ μ 1 6 ∧ μ 1 6 < 200) : CT TX md_X5_takes [aR 1, aI 1] μ (fun rv μ1 => rv = none ∧ μ1 = up μ 1 6 (μ 1 6 + 1)) := by
  refine CT.of (Nat.le_of_ble_eq_true rfl) (by decide) rfl (Nat.le_of_ble_eq_true rfl) (fun X hG hX => ?_)
  have hG : G TX X RX5 cX5_takes 2 0 0 none := hG
  show J TX X 2 0 [some (aR 1), some (aI 1)] [] μ
  refine J.aload_n hG dX5_takes_0 rfl rfl ?_
  refine J.getI hG ciX5 rfl 8 8 rfl (Nat.le_of_ble_eq_true rfl) rfl fl_X5_45 dX5_takes_1 ?_
  refine J.iconst hG dX5_takes_4 (by decide) ?_
  refine J.icmp_eq hG 9 dX5_takes_5 rfl (fun h5 => ?_) (fun h5 => absurd h5 (by omega))
  refine J.iload_n hG dX5_takes_9 rfl rfl ?_
  refine J.if_eq hG 26 dX5_takes_10 rfl (fun h10 => absurd h10 (by omega)) (fun h10 => ?_)
  refine J.aload_n hG dX5_takes_13 rfl rfl ?_
  refine J.dup hG dX5_takes_14 (fun _ => rfl) ?_
  refine J.getI hG ciX5 rfl 6 6 rfl (Nat.le_of_ble_eq_true rfl) rfl fl_X5_39 dX5_takes_15 ?_
  refine J.iconst hG dX5_takes_18 (by decide) ?_
  refine J.iadd hG dX5_takes_19 (fun _ _ => (by omega)) ?_
  refine J.putI hG ciX5 rfl 6 6 rfl (Nat.le_of_ble_eq_true rfl) rfl fl_X5_39 rfl rfl dX5_takes_20 ?_
  refine J.goto hG 39 dX5_takes_23 rfl ?_
  refine J.vret hG dX5_takes_39 ?_
  rw [hX]; dsimp only
  exact ⟨rfl, rfl⟩

set_option maxRecDepth 100000 in
set_option maxHeartbeats 4000000 in
theorem X5_takes_f (μ : Mem) (h8 : μ 1 8 = -1) (h6 : 0 ≤ μ 1 6 ∧ μ 1 6 ≤ 200) : CT TX md_X5_takes [aR 1, aI 0] μ (fun rv μ1 => rv = none ∧ μ1 = up μ 1 8 (μ 12 (μ 1 6))) := by
  refine CT.of (Nat.le_of_ble_eq_true rfl) (by decide) rfl (Nat.le_of_ble_eq_true rfl) (fun X hG hX => ?_)
  have hG : G TX X RX5 cX5_takes 2 0 0 none := hG
  show J TX X 2 0 [some (aR 1), some (aI 0)] [] μ
  refine J.aload_n hG dX5_takes_0 rfl rfl ?_
  refine J.getI hG ciX5 rfl 8 8 rfl (Nat.le_of_ble_eq_true rfl) rfl fl_X5_45 dX5_takes_1 ?_
  refine J.iconst hG dX5_takes_4 (by decide) ?_
  refine J.icmp_eq hG 9 dX5_takes_5 rfl (fun h5 => ?_) (fun h5 => absurd h5 (by omega))
  refine J.iload_n hG dX5_takes_9 rfl rfl ?_
  refine J.if_eq hG 26 dX5_takes_10 rfl (fun h10 => ?_) (fun h10 => absurd h10 (by omega))
  refine J.aload_n hG dX5_takes_26 rfl rfl ?_
  refine J.aload_n hG dX5_takes_27 rfl rfl ?_
  refine J.getR hG ciX5 rfl 5 5 rfl (Nat.le_of_ble_eq_true rfl) rfl fl_X5_36 dX5_takes_28 ?_
  refine J.aload_n hG dX5_takes_31 rfl rfl ?_
  refine J.getI hG ciX5 rfl 6 6 rfl (Nat.le_of_ble_eq_true rfl) rfl fl_X5_39 dX5_takes_32 ?_
  refine J.iald hG rfl (by omega) (by omega) dX5_takes_35 ?_
  refine J.putI hG ciX5 rfl 8 8 rfl (Nat.le_of_ble_eq_true rfl) rfl fl_X5_45 rfl rfl dX5_takes_36 ?_
  refine J.vret hG dX5_takes_39 ?_
  rw [hX]; dsimp only
  exact ⟨rfl, rfl⟩

set_option maxRecDepth 100000 in
set_option maxHeartbeats 4000000 in
theorem X5_takes_b (μ : Mem) (b : Int) (h8 : ¬ μ 1 8 = -1) : CT TX md_X5_takes [aR 1, aI b] μ (fun rv μ1 => rv = none ∧ μ1 = μ) := by
  refine CT.of (Nat.le_of_ble_eq_true rfl) (by decide) rfl (Nat.le_of_ble_eq_true rfl) (fun X hG hX => ?_)
  have hG : G TX X RX5 cX5_takes 2 0 0 none := hG
  show J TX X 2 0 [some (aR 1), some (aI b)] [] μ
  refine J.aload_n hG dX5_takes_0 rfl rfl ?_
  refine J.getI hG ciX5 rfl 8 8 rfl (Nat.le_of_ble_eq_true rfl) rfl fl_X5_45 dX5_takes_1 ?_
  refine J.iconst hG dX5_takes_4 (by decide) ?_
  refine J.icmp_eq hG 9 dX5_takes_5 rfl (fun h5 => absurd h5 (by omega)) (fun h5 => ?_)
  refine J.vret hG dX5_takes_8 ?_
  rw [hX]; dsimp only
  exact ⟨rfl, rfl⟩

set_option maxRecDepth 100000 in
set_option maxHeartbeats 4000000 in
theorem X5_takesNumber (μ : Mem) (m : Nat) (hI : PI m μ) (h8 : μ 1 8 = -1) (lo hi : Int) (hlo : 0 ≤ lo) : CT TX md_X5_takesNumber [aR 1, aI lo, aI hi] μ (fun rv μ1 => ((lo ≤ μ 11 (μ 1 6) ∧ μ 11 (μ 1 6) ≤ hi) ∧ rv = some (aI (μ 11 (μ 1 6))) ∧ μ1 = up μ 1 6 (μ 1 6 + 1)) ∨ (¬ (lo ≤ μ 11 (μ 1 6) ∧ μ 11 (μ 1 6) ≤ hi) ∧ rv = some (aI lo) ∧ μ1 = up μ 1 8 (μ 12 (μ 1 6)))) := by
  refine CT.of (Nat.le_of_ble_eq_true rfl) (by decide) rfl (Nat.le_of_ble_eq_true rfl) (fun X hG hX => ?_)
  have hG : G TX X RX5 cX5_takesNumber 4 1 22 (some .int) := hG
  show J TX X 4 0 [some (aR 1), some (aI lo), some (aI hi), none] [] μ
  obtain ⟨⟨g1, g2, g3⟩, g4, -⟩ := hI
  have g5 := g3 (μ 1 6) g4.1 g4.2
  by_cases hP : lo ≤ μ 11 (μ 1 6) ∧ μ 11 (μ 1 6) ≤ hi
  · have hne : μ 1 6 ≠ m := fun w => by rw [w, g2] at hP; omega
    refine J.aload_n hG dX5_takesNumber_0 rfl rfl ?_
    refine J.getR hG ciX5 rfl 4 4 rfl (Nat.le_of_ble_eq_true rfl) rfl fl_X5_33 dX5_takesNumber_1 ?_
    refine J.aload_n hG dX5_takesNumber_4 rfl rfl ?_
    refine J.getI hG ciX5 rfl 6 6 rfl (Nat.le_of_ble_eq_true rfl) rfl fl_X5_39 dX5_takesNumber_5 ?_
    refine J.iald hG rfl (by omega) (by omega) dX5_takesNumber_8 ?_
    refine J.istore_n hG dX5_takesNumber_9 rfl (Nat.le_of_ble_eq_true rfl) ?_
    refine J.aload_n hG dX5_takesNumber_10 rfl rfl ?_
    refine J.iload_n hG dX5_takesNumber_11 rfl rfl ?_
    refine J.iload_n hG dX5_takesNumber_12 rfl rfl ?_
    refine J.iload_n hG dX5_takesNumber_13 rfl rfl ?_
    refine J.callSN hG (X6_within _ _ _ _) ok_X6_within nl_X5_124 rfl (Nat.le_of_ble_eq_true rfl) ⟨Nat.le_of_ble_eq_true rfl, Nat.le_of_ble_eq_true rfl⟩ dX5_takesNumber_14 rfl (fun r1 μ1 hp1 => ?_)
    obtain ⟨rfl, rfl⟩ := hp1
    rw [if_pos hP]
    refine J.callV hG (X5_takes_t _ h8 (by omega)) ok_X5_takes ml_X5_128 rfl rfl rfl rfl (Nat.le_of_ble_eq_true rfl) ⟨Nat.le_of_ble_eq_true rfl, Nat.le_of_ble_eq_true rfl⟩ dX5_takesNumber_17 rfl (fun r1 μ1 hp1 => ?_)
    obtain ⟨rfl, rfl⟩ := hp1
    refine J.aload_n hG dX5_takesNumber_20 rfl rfl ?_
    refine J.getI hG ciX5 rfl 8 8 rfl (Nat.le_of_ble_eq_true rfl) rfl fl_X5_45 dX5_takesNumber_21 ?_
    refine J.iconst hG dX5_takesNumber_24 (by decide) ?_
    refine J.icmp_ne hG 32 dX5_takesNumber_25 rfl (fun h25 => absurd h25 (by rw [up_ne _ (by decide)] at h25; omega)) (fun h25 => ?_)
    refine J.iload_n hG dX5_takesNumber_28 rfl rfl ?_
    refine J.goto hG 33 dX5_takesNumber_29 rfl ?_
    refine J.iret hG dX5_takesNumber_33 ?_
    rw [hX]; dsimp only
    exact Or.inl ⟨hP, rfl, rfl⟩
  · refine J.aload_n hG dX5_takesNumber_0 rfl rfl ?_
    refine J.getR hG ciX5 rfl 4 4 rfl (Nat.le_of_ble_eq_true rfl) rfl fl_X5_33 dX5_takesNumber_1 ?_
    refine J.aload_n hG dX5_takesNumber_4 rfl rfl ?_
    refine J.getI hG ciX5 rfl 6 6 rfl (Nat.le_of_ble_eq_true rfl) rfl fl_X5_39 dX5_takesNumber_5 ?_
    refine J.iald hG rfl (by omega) (by omega) dX5_takesNumber_8 ?_
    refine J.istore_n hG dX5_takesNumber_9 rfl (Nat.le_of_ble_eq_true rfl) ?_
    refine J.aload_n hG dX5_takesNumber_10 rfl rfl ?_
    refine J.iload_n hG dX5_takesNumber_11 rfl rfl ?_
    refine J.iload_n hG dX5_takesNumber_12 rfl rfl ?_
    refine J.iload_n hG dX5_takesNumber_13 rfl rfl ?_
    refine J.callSN hG (X6_within _ _ _ _) ok_X6_within nl_X5_124 rfl (Nat.le_of_ble_eq_true rfl) ⟨Nat.le_of_ble_eq_true rfl, Nat.le_of_ble_eq_true rfl⟩ dX5_takesNumber_14 rfl (fun r1 μ1 hp1 => ?_)
    obtain ⟨rfl, rfl⟩ := hp1
    rw [if_neg hP]
    refine J.callV hG (X5_takes_f _ h8 (by omega)) ok_X5_takes ml_X5_128 rfl rfl rfl rfl (Nat.le_of_ble_eq_true rfl) ⟨Nat.le_of_ble_eq_true rfl, Nat.le_of_ble_eq_true rfl⟩ dX5_takesNumber_17 rfl (fun r1 μ1 hp1 => ?_)
    obtain ⟨rfl, rfl⟩ := hp1
    refine J.aload_n hG dX5_takesNumber_20 rfl rfl ?_
    refine J.getI hG ciX5 rfl 8 8 rfl (Nat.le_of_ble_eq_true rfl) rfl fl_X5_45 dX5_takesNumber_21 ?_
    refine J.iconst hG dX5_takesNumber_24 (by decide) ?_
    refine J.icmp_ne hG 32 dX5_takesNumber_25 rfl (fun h25 => ?_) (fun h25 => absurd h25 (by rw [up_self] at h25; omega))
    refine J.iload_n hG dX5_takesNumber_32 rfl rfl ?_
    refine J.iret hG dX5_takesNumber_33 ?_
    rw [hX]; dsimp only
    exact Or.inr ⟨hP, rfl, rfl⟩

set_option maxRecDepth 100000 in
set_option maxHeartbeats 4000000 in
theorem X5_takesNumber_b (μ : Mem) (h8 : ¬ μ 1 8 = -1) (h6 : 0 ≤ μ 1 6 ∧ μ 1 6 ≤ 200) (lo hi : Int) : CT TX md_X5_takesNumber [aR 1, aI lo, aI hi] μ (fun rv μ1 => rv = some (aI lo) ∧ μ1 = μ) := by
  refine CT.of (Nat.le_of_ble_eq_true rfl) (by decide) rfl (Nat.le_of_ble_eq_true rfl) (fun X hG hX => ?_)
  have hG : G TX X RX5 cX5_takesNumber 4 1 22 (some .int) := hG
  show J TX X 4 0 [some (aR 1), some (aI lo), some (aI hi), none] [] μ
  refine J.aload_n hG dX5_takesNumber_0 rfl rfl ?_
  refine J.getR hG ciX5 rfl 4 4 rfl (Nat.le_of_ble_eq_true rfl) rfl fl_X5_33 dX5_takesNumber_1 ?_
  refine J.aload_n hG dX5_takesNumber_4 rfl rfl ?_
  refine J.getI hG ciX5 rfl 6 6 rfl (Nat.le_of_ble_eq_true rfl) rfl fl_X5_39 dX5_takesNumber_5 ?_
  refine J.iald hG rfl (by omega) (by omega) dX5_takesNumber_8 ?_
  refine J.istore_n hG dX5_takesNumber_9 rfl (Nat.le_of_ble_eq_true rfl) ?_
  refine J.aload_n hG dX5_takesNumber_10 rfl rfl ?_
  refine J.iload_n hG dX5_takesNumber_11 rfl rfl ?_
  refine J.iload_n hG dX5_takesNumber_12 rfl rfl ?_
  refine J.iload_n hG dX5_takesNumber_13 rfl rfl ?_
  refine J.callSN hG (X6_within _ _ _ _) ok_X6_within nl_X5_124 rfl (Nat.le_of_ble_eq_true rfl) ⟨Nat.le_of_ble_eq_true rfl, Nat.le_of_ble_eq_true rfl⟩ dX5_takesNumber_14 rfl (fun r1 μ1 hp1 => ?_)
  obtain ⟨rfl, rfl⟩ := hp1
  refine J.callV hG (X5_takes_b _ _ h8) ok_X5_takes ml_X5_128 rfl rfl rfl rfl (Nat.le_of_ble_eq_true rfl) ⟨Nat.le_of_ble_eq_true rfl, Nat.le_of_ble_eq_true rfl⟩ dX5_takesNumber_17 rfl (fun r1 μ1 hp1 => ?_)
  obtain ⟨rfl, rfl⟩ := hp1
  refine J.aload_n hG dX5_takesNumber_20 rfl rfl ?_
  refine J.getI hG ciX5 rfl 8 8 rfl (Nat.le_of_ble_eq_true rfl) rfl fl_X5_45 dX5_takesNumber_21 ?_
  refine J.iconst hG dX5_takesNumber_24 (by decide) ?_
  refine J.icmp_ne hG 32 dX5_takesNumber_25 rfl (fun h25 => ?_) (fun h25 => absurd h25 (by omega))
  refine J.iload_n hG dX5_takesNumber_32 rfl rfl ?_
  refine J.iret hG dX5_takesNumber_33 ?_
  rw [hX]; dsimp only
  exact ⟨rfl, rfl⟩

set_option maxRecDepth 100000 in
set_option maxHeartbeats 4000000 in
theorem X5_takesSemicolon (μ : Mem) (m : Nat) (hI : PI m μ) (h8 : μ 1 8 = -1) : CT TX md_X5_takesSemicolon [aR 1] μ (fun rv μ1 => (μ 11 (μ 1 6) = -59 ∧ rv = none ∧ μ1 = up μ 1 6 (μ 1 6 + 1)) ∨ (¬ μ 11 (μ 1 6) = -59 ∧ rv = none ∧ μ1 = up μ 1 8 (μ 12 (μ 1 6)))) := by
  refine CT.of (Nat.le_of_ble_eq_true rfl) (by decide) rfl (Nat.le_of_ble_eq_true rfl) (fun X hG hX => ?_)
  have hG : G TX X RX5 cX5_takesSemicolon 1 1 21 none := hG
  show J TX X 1 0 [some (aR 1)] [] μ
  obtain ⟨⟨g1, g2, g3⟩, g4, -⟩ := hI
  have g5 := g3 (μ 1 6) g4.1 g4.2
  refine J.aload_n hG dX5_takesSemicolon_0 rfl rfl ?_
  refine J.aload_n hG dX5_takesSemicolon_1 rfl rfl ?_
  refine J.getR hG ciX5 rfl 4 4 rfl (Nat.le_of_ble_eq_true rfl) rfl fl_X5_33 dX5_takesSemicolon_2 ?_
  refine J.aload_n hG dX5_takesSemicolon_5 rfl rfl ?_
  refine J.getI hG ciX5 rfl 6 6 rfl (Nat.le_of_ble_eq_true rfl) rfl fl_X5_39 dX5_takesSemicolon_6 ?_
  refine J.iald hG rfl (by omega) (by omega) dX5_takesSemicolon_9 ?_
  refine J.bipush hG dX5_takesSemicolon_10 (by decide) (by decide) ?_
  refine J.icmp_ne hG 19 dX5_takesSemicolon_12 rfl (fun h12 => ?_) (fun h12 => ?_)
  · refine J.iconst hG dX5_takesSemicolon_19 (by decide) ?_
    refine J.callV hG (X5_takes_f _ h8 (by omega)) ok_X5_takes ml_X5_128 rfl rfl rfl rfl (Nat.le_of_ble_eq_true rfl) ⟨Nat.le_of_ble_eq_true rfl, Nat.le_of_ble_eq_true rfl⟩ dX5_takesSemicolon_20 rfl (fun r1 μ1 hp1 => ?_)
    obtain ⟨rfl, rfl⟩ := hp1
    refine J.vret hG dX5_takesSemicolon_23 ?_
    rw [hX]; dsimp only
    exact Or.inr ⟨h12, rfl, rfl⟩
  · refine J.iconst hG dX5_takesSemicolon_15 (by decide) ?_
    refine J.goto hG 20 dX5_takesSemicolon_16 rfl ?_
    refine J.callV hG (X5_takes_t _ h8 (by have hne : μ 1 6 ≠ m := (fun w => by rw [w, g2] at h12; omega); omega)) ok_X5_takes ml_X5_128 rfl rfl rfl rfl (Nat.le_of_ble_eq_true rfl) ⟨Nat.le_of_ble_eq_true rfl, Nat.le_of_ble_eq_true rfl⟩ dX5_takesSemicolon_20 rfl (fun r1 μ1 hp1 => ?_)
    obtain ⟨rfl, rfl⟩ := hp1
    refine J.vret hG dX5_takesSemicolon_23 ?_
    rw [hX]; dsimp only
    exact Or.inl ⟨h12, rfl, rfl⟩

set_option maxRecDepth 100000 in
set_option maxHeartbeats 4000000 in
theorem X5_takesSemicolon_b (μ : Mem) (h8 : ¬ μ 1 8 = -1) (h6 : 0 ≤ μ 1 6 ∧ μ 1 6 ≤ 200) : CT TX md_X5_takesSemicolon [aR 1] μ (fun rv μ1 => rv = none ∧ μ1 = μ) := by
  refine CT.of (Nat.le_of_ble_eq_true rfl) (by decide) rfl (Nat.le_of_ble_eq_true rfl) (fun X hG hX => ?_)
  have hG : G TX X RX5 cX5_takesSemicolon 1 1 21 none := hG
  show J TX X 1 0 [some (aR 1)] [] μ
  refine J.aload_n hG dX5_takesSemicolon_0 rfl rfl ?_
  refine J.aload_n hG dX5_takesSemicolon_1 rfl rfl ?_
  refine J.getR hG ciX5 rfl 4 4 rfl (Nat.le_of_ble_eq_true rfl) rfl fl_X5_33 dX5_takesSemicolon_2 ?_
  refine J.aload_n hG dX5_takesSemicolon_5 rfl rfl ?_
  refine J.getI hG ciX5 rfl 6 6 rfl (Nat.le_of_ble_eq_true rfl) rfl fl_X5_39 dX5_takesSemicolon_6 ?_
  refine J.iald hG rfl (by omega) (by omega) dX5_takesSemicolon_9 ?_
  refine J.bipush hG dX5_takesSemicolon_10 (by decide) (by decide) ?_
  refine J.icmp_ne hG 19 dX5_takesSemicolon_12 rfl (fun h12 => ?_) (fun h12 => ?_)
  · refine J.iconst hG dX5_takesSemicolon_19 (by decide) ?_
    refine J.callV hG (X5_takes_b _ _ h8) ok_X5_takes ml_X5_128 rfl rfl rfl rfl (Nat.le_of_ble_eq_true rfl) ⟨Nat.le_of_ble_eq_true rfl, Nat.le_of_ble_eq_true rfl⟩ dX5_takesSemicolon_20 rfl (fun r1 μ1 hp1 => ?_)
    obtain ⟨rfl, rfl⟩ := hp1
    refine J.vret hG dX5_takesSemicolon_23 ?_
    rw [hX]; dsimp only
    exact ⟨rfl, rfl⟩
  · refine J.iconst hG dX5_takesSemicolon_15 (by decide) ?_
    refine J.goto hG 20 dX5_takesSemicolon_16 rfl ?_
    refine J.callV hG (X5_takes_b _ _ h8) ok_X5_takes ml_X5_128 rfl rfl rfl rfl (Nat.le_of_ble_eq_true rfl) ⟨Nat.le_of_ble_eq_true rfl, Nat.le_of_ble_eq_true rfl⟩ dX5_takesSemicolon_20 rfl (fun r1 μ1 hp1 => ?_)
    obtain ⟨rfl, rfl⟩ := hp1
    refine J.vret hG dX5_takesSemicolon_23 ?_
    rw [hX]; dsimp only
    exact ⟨rfl, rfl⟩

set_option maxRecDepth 100000 in
set_option maxHeartbeats 4000000 in
theorem X5_mayBegin (μ : Mem) (c : Int) : CT TX md_X5_mayBegin [aR 1, aI c] μ (fun rv μ1 => rv = some (aI (if mayS μ c = 1 then 1 else 0)) ∧ μ = μ1) := by
  refine CT.of (Nat.le_of_ble_eq_true rfl) (by decide) rfl (Nat.le_of_ble_eq_true rfl) (fun X hG hX => ?_)
  have hG : G TX X RX5 cX5_mayBegin 2 0 0 (some .boolean) := hG
  show J TX X 2 0 [some (aR 1), some (aI c)] [] μ
  refine J.iload_n hG dX5_mayBegin_0 rfl rfl ?_
  rcases (show c = 100 ∨ c = 108 ∨ c = 112 ∨ c = 115 ∨ (¬ c = 100 ∧ ¬ c = 108 ∧ ¬ c = 112 ∧ ¬ c = 115) by omega) with rfl | rfl | rfl | rfl | hw1
  · refine J.lookup hG 88 dX5_mayBegin_1 (by decide) (off := 87) (by decide) rfl ?_
    refine J.aload_n hG dX5_mayBegin_88 rfl rfl ?_
    refine J.getI hG ciX5 rfl 9 9 rfl (Nat.le_of_ble_eq_true rfl) rfl fl_X5_48 dX5_mayBegin_89 ?_
    refine J.if_ne hG 99 dX5_mayBegin_92 rfl (fun h92 => ?_) (fun h92 => ?_)
    · refine J.iconst hG dX5_mayBegin_99 (by decide) ?_
      refine J.zret hG (by first | exact Or.inl rfl | exact Or.inr rfl | assumption | (split <;> first | exact Or.inl rfl | exact Or.inr rfl)) dX5_mayBegin_100 ?_
      rw [hX]; dsimp only
      exact ⟨by congr 2; unfold mayS; (repeat' split) <;> first | rfl | (exfalso; omega), rfl⟩
    · refine J.iconst hG dX5_mayBegin_95 (by decide) ?_
      refine J.goto hG 100 dX5_mayBegin_96 rfl ?_
      refine J.zret hG (by first | exact Or.inl rfl | exact Or.inr rfl | assumption | (split <;> first | exact Or.inl rfl | exact Or.inr rfl)) dX5_mayBegin_100 ?_
      rw [hX]; dsimp only
      exact ⟨by congr 2; unfold mayS; (repeat' split) <;> first | rfl | (exfalso; omega), rfl⟩
  · refine J.lookup hG 71 dX5_mayBegin_1 (by decide) (off := 70) (by decide) rfl ?_
    refine J.aload_n hG dX5_mayBegin_71 rfl rfl ?_
    refine J.getR hG ciX5 rfl 1 1 rfl (Nat.le_of_ble_eq_true rfl) rfl fl_X5_18 dX5_mayBegin_72 ?_
    refine J.getI hG ciX1 rfl 1 1 rfl (Nat.le_of_ble_eq_true rfl) rfl fl_X5_100 dX5_mayBegin_75 ?_
    refine J.iconst hG dX5_mayBegin_78 (by decide) ?_
    refine J.icmp_ge hG 86 dX5_mayBegin_79 rfl (fun h79 => ?_) (fun h79 => ?_)
    · refine J.iconst hG dX5_mayBegin_86 (by decide) ?_
      refine J.zret hG (by first | exact Or.inl rfl | exact Or.inr rfl | assumption | (split <;> first | exact Or.inl rfl | exact Or.inr rfl)) dX5_mayBegin_87 ?_
      rw [hX]; dsimp only
      exact ⟨by congr 2; unfold mayS; (repeat' split) <;> first | rfl | (exfalso; omega), rfl⟩
    · refine J.iconst hG dX5_mayBegin_82 (by decide) ?_
      refine J.goto hG 87 dX5_mayBegin_83 rfl ?_
      refine J.zret hG (by first | exact Or.inl rfl | exact Or.inr rfl | assumption | (split <;> first | exact Or.inl rfl | exact Or.inr rfl)) dX5_mayBegin_87 ?_
      rw [hX]; dsimp only
      exact ⟨by congr 2; unfold mayS; (repeat' split) <;> first | rfl | (exfalso; omega), rfl⟩
  · refine J.lookup hG 101 dX5_mayBegin_1 (by decide) (off := 100) (by decide) rfl ?_
    refine J.aload_n hG dX5_mayBegin_101 rfl rfl ?_
    refine J.getR hG ciX5 rfl 1 1 rfl (Nat.le_of_ble_eq_true rfl) rfl fl_X5_18 dX5_mayBegin_102 ?_
    refine J.getI hG ciX1 rfl 2 2 rfl (Nat.le_of_ble_eq_true rfl) rfl fl_X5_94 dX5_mayBegin_105 ?_
    refine J.bipush hG dX5_mayBegin_108 (by decide) (by decide) ?_
    refine J.icmp_ge hG 117 dX5_mayBegin_110 rfl (fun h110 => ?_) (fun h110 => ?_)
    · refine J.iconst hG dX5_mayBegin_117 (by decide) ?_
      refine J.zret hG (by first | exact Or.inl rfl | exact Or.inr rfl | assumption | (split <;> first | exact Or.inl rfl | exact Or.inr rfl)) dX5_mayBegin_118 ?_
      rw [hX]; dsimp only
      exact ⟨by congr 2; unfold mayS; (repeat' split) <;> first | rfl | (exfalso; omega), rfl⟩
    · refine J.iconst hG dX5_mayBegin_113 (by decide) ?_
      refine J.goto hG 118 dX5_mayBegin_114 rfl ?_
      refine J.zret hG (by first | exact Or.inl rfl | exact Or.inr rfl | assumption | (split <;> first | exact Or.inl rfl | exact Or.inr rfl)) dX5_mayBegin_118 ?_
      rw [hX]; dsimp only
      exact ⟨by congr 2; unfold mayS; (repeat' split) <;> first | rfl | (exfalso; omega), rfl⟩
  · refine J.lookup hG 44 dX5_mayBegin_1 (by decide) (off := 43) (by decide) rfl ?_
    refine J.aload_n hG dX5_mayBegin_44 rfl rfl ?_
    refine J.getR hG ciX5 rfl 1 1 rfl (Nat.le_of_ble_eq_true rfl) rfl fl_X5_18 dX5_mayBegin_45 ?_
    refine J.getI hG ciX1 rfl 1 1 rfl (Nat.le_of_ble_eq_true rfl) rfl fl_X5_100 dX5_mayBegin_48 ?_
    refine J.if_ne hG 69 dX5_mayBegin_51 rfl (fun h51 => ?_) (fun h51 => ?_)
    · refine J.iconst hG dX5_mayBegin_69 (by decide) ?_
      refine J.zret hG (by first | exact Or.inl rfl | exact Or.inr rfl | assumption | (split <;> first | exact Or.inl rfl | exact Or.inr rfl)) dX5_mayBegin_70 ?_
      rw [hX]; dsimp only
      exact ⟨by congr 2; unfold mayS; (repeat' split) <;> first | rfl | (exfalso; omega), rfl⟩
    · refine J.aload_n hG dX5_mayBegin_54 rfl rfl ?_
      refine J.getR hG ciX5 rfl 1 1 rfl (Nat.le_of_ble_eq_true rfl) rfl fl_X5_18 dX5_mayBegin_55 ?_
      refine J.getI hG ciX1 rfl 0 0 rfl (Nat.le_of_ble_eq_true rfl) rfl fl_X5_103 dX5_mayBegin_58 ?_
      refine J.iconst hG dX5_mayBegin_61 (by decide) ?_
      refine J.icmp_ge hG 69 dX5_mayBegin_62 rfl (fun h62 => ?_) (fun h62 => ?_)
      · refine J.iconst hG dX5_mayBegin_69 (by decide) ?_
        refine J.zret hG (by first | exact Or.inl rfl | exact Or.inr rfl | assumption | (split <;> first | exact Or.inl rfl | exact Or.inr rfl)) dX5_mayBegin_70 ?_
        rw [hX]; dsimp only
        exact ⟨by congr 2; unfold mayS; (repeat' split) <;> first | rfl | (exfalso; omega), rfl⟩
      · refine J.iconst hG dX5_mayBegin_65 (by decide) ?_
        refine J.goto hG 70 dX5_mayBegin_66 rfl ?_
        refine J.zret hG (by first | exact Or.inl rfl | exact Or.inr rfl | assumption | (split <;> first | exact Or.inl rfl | exact Or.inr rfl)) dX5_mayBegin_70 ?_
        rw [hX]; dsimp only
        exact ⟨by congr 2; unfold mayS; (repeat' split) <;> first | rfl | (exfalso; omega), rfl⟩
  · refine J.lookup hG 119 dX5_mayBegin_1 (by decide) (off := 118) (by show Op.lookupswitch.offset [(100, 87), (108, 70), (112, 100), (115, 43)] 118 c = 118; rw [Op.lookupswitch.offset_cons, if_neg (by omega), Op.lookupswitch.offset_cons, if_neg (by omega), Op.lookupswitch.offset_cons, if_neg (by omega), Op.lookupswitch.offset_cons, if_neg (by omega)]; rfl) rfl ?_
    refine J.iconst hG dX5_mayBegin_119 (by decide) ?_
    refine J.zret hG (by first | exact Or.inl rfl | exact Or.inr rfl | assumption | (split <;> first | exact Or.inl rfl | exact Or.inr rfl)) dX5_mayBegin_120 ?_
    rw [hX]; dsimp only
    exact ⟨by congr 2; unfold mayS; (repeat' split) <;> first | rfl | (exfalso; omega), rfl⟩

/-- a step of the reading that went well: what stays -/
def Go (m : Nat) (μ ν : Mem) : Prop := PI m ν ∧ ν 1 8 = -1 ∧ ν 1 7 = μ 1 7 ∧ (∀ c : Nat, (c = 0 ∨ c = 6 ∨ 9 < c) → ν c = μ c) ∧ ν 1 0 = μ 1 0
theorem Go_w {m : Nat} {μ ν : Mem} (h : Go m μ ν) (c : Nat) (j x : Int) (hc : c = 4 ∨ c = 5 ∨ c = 7 ∨ c = 8 ∨ c = 9) : Go m μ (up ν c j x) := by
  unfold Go
  rw [up_cell _ _ _ (show (1 : Nat) ≠ c by omega)]
  exact ⟨PI_w h.1 _ _ _ (by omega), h.2.1, h.2.2.1, fun d hd => by rw [up_cell _ _ _ (by omega)]; exact h.2.2.2.1 d hd, h.2.2.2.2⟩
theorem Go_rg {m : Nat} {μ ν : Mem} (h : Go m μ ν) (s x : Int) (hs : s = ν 2 0) : Go m μ (up ν 3 s x) := by
  subst hs
  unfold Go
  rw [up_cell _ _ _ (show (1 : Nat) ≠ 3 by decide)]
  exact ⟨PI_rg h.1 x, h.2.1, h.2.2.1, fun d hd => by rw [up_cell _ _ _ (by omega)]; exact h.2.2.2.1 d hd, h.2.2.2.2⟩
theorem Go_nx {m : Nat} {μ ν ν1 : Mem} (h : Go m μ ν) (ht : ¬ ν 11 (ν 1 6) = -2) (e : ν1 = up ν 1 6 (ν 1 6 + 1)) : Go m μ ν1 ∧ ν1 2 = ν 2 ∧ ν1 3 = ν 3 ∧ ν1 1 9 = ν 1 9 := by
  subst e
  have hne : ν 1 6 ≠ m := fun w => ht (by rw [w]; exact h.1.1.2.1)
  have h6 := h.1.2.1
  refine ⟨⟨PI_1 h.1 _ _ (fun _ => by omega) (fun w => by omega), ?_, ?_, fun d hd => ?_, ?_⟩, up_cell _ _ _ (by decide), up_cell _ _ _ (by decide), up_ne _ (by decide)⟩
  · rw [up_ne _ (by decide)]; exact h.2.1
  · rw [up_ne _ (by decide)]; exact h.2.2.1
  · rw [up_cell _ _ _ (by omega)]; exact h.2.2.2.1 d hd
  · rw [up_ne _ (by decide)]; exact h.2.2.2.2
theorem Go_2 {m : Nat} {μ ν : Mem} (h : Go m μ ν) (j x : Int) (hp : PI m (up ν 2 j x)) : Go m μ (up ν 2 j x) := by
  unfold Go
  rw [up_cell _ _ _ (show (1 : Nat) ≠ 2 by decide)]
  exact ⟨hp, h.2.1, h.2.2.1, fun d hd => by rw [up_cell _ _ _ (by omega)]; exact h.2.2.2.1 d hd, h.2.2.2.2⟩
theorem Go_bad {m : Nat} {μ ν ν1 : Mem} (h : Go m μ ν) (e : ν1 = up ν 1 8 (ν 12 (ν 1 6))) : Bad μ ν1 ∧ ν1 1 8 = ν 12 (ν 1 6) ∧ ν1 2 = ν 2 ∧ ν1 3 = ν 3 := by
  subst e
  have h6 := h.1.2.1
  have h1 := h.1.1.2.2 (ν 1 6) h6.1 h6.2
  have hm := h.1.1.1
  exact ⟨Bad_tr (Bad_i _ (by omega) h1.2) h.2.2.2.1 h.2.2.2.2 h.2.2.1, up_self _ _ _ _, up_cell _ _ _ (by decide), up_cell _ _ _ (by decide)⟩
theorem Go_0 {m : Nat} {μ : Mem} (h : PI m μ) (h8 : μ 1 8 = -1) : Go m μ μ := ⟨h, h8, rfl, fun _ _ => rfl, rfl⟩

set_option maxRecDepth 100000 in
set_option maxHeartbeats 4000000 in
theorem X5_readsScale (μ : Mem) (m : Nat) (hI : PI m μ) (h8 : μ 1 8 = -1) (hs : μ 2 0 < 4) : CT TX md_X5_readsScale [aR 1] μ (fun rv μ1 => rv = none ∧ ((scaleS μ = .inr μ1 ∧ Go m μ μ1) ∨ (scaleS μ = .inl (μ1 1 8) ∧ Bad μ μ1))) := by
  refine CT.of (Nat.le_of_ble_eq_true rfl) (by decide) rfl (Nat.le_of_ble_eq_true rfl) (fun X hG hX => ?_)
  have hG : G TX X RX5 cX5_readsScale 2 2 45 none := hG
  show J TX X 2 0 [some (aR 1), none] [] μ
  have hI2 := hI
  obtain ⟨⟨g1, g2, g3⟩, g4, g5, g6, g7, g8, g9⟩ := hI2
  have k0 := Go_0 hI h8
  refine J.aload_n hG dX5_readsScale_0 rfl rfl ?_
  refine J.getR hG ciX5 rfl 1 1 rfl (Nat.le_of_ble_eq_true rfl) rfl fl_X5_18 dX5_readsScale_1 ?_
  refine J.getI hG ciX1 rfl 0 0 rfl (Nat.le_of_ble_eq_true rfl) rfl fl_X5_103 dX5_readsScale_4 ?_
  refine J.istore_n hG dX5_readsScale_7 rfl (Nat.le_of_ble_eq_true rfl) ?_
  refine J.aload_n hG dX5_readsScale_8 rfl rfl ?_
  refine J.getR hG ciX5 rfl 2 2 rfl (Nat.le_of_ble_eq_true rfl) rfl fl_X5_25 dX5_readsScale_9 ?_
  refine J.getR hG ciX2 rfl 3 3 rfl (Nat.le_of_ble_eq_true rfl) rfl fl_X5_106 dX5_readsScale_12 ?_
  refine J.iload_n hG dX5_readsScale_15 rfl rfl ?_
  refine J.aload_n hG dX5_readsScale_16 rfl rfl ?_
  refine J.iconst hG dX5_readsScale_17 (by decide) ?_
  refine J.iconst hG dX5_readsScale_18 (by decide) ?_
  refine J.callV hG (X5_takesNumber _ m hI h8 _ _ (by decide)) ok_X5_takesNumber ml_X5_84 rfl rfl rfl rfl (Nat.le_of_ble_eq_true rfl) ⟨Nat.le_of_ble_eq_true rfl, Nat.le_of_ble_eq_true rfl⟩ dX5_readsScale_19 rfl (fun r1 ν1 hp1 => ?_)
  rcases hp1 with ⟨a1, rfl, e1⟩ | ⟨a1, rfl, e1⟩
  · obtain ⟨k1, c1, c1r, -⟩ := Go_nx k0 (by omega) e1
    have k2 := Go_w k1 8 (μ 2 0) (μ 11 (μ 1 6)) (by omega)
    refine J.iast hG rfl (by first | omega | (simp only [u1_2, u1_3, u1_4, u1_5, u1_7, u1_8, u1_9, u2_1, u2_3, u2_4, u2_5, u2_7, u2_8, u2_9, u3_1, u3_2, u3_4, u3_5, u3_7, u3_8, u3_9, u11_1, u11_2, u11_3, u11_4, u11_5, u11_7, u11_8, u11_9, u12_1, u12_2, u12_3, u12_4, u12_5, u12_7, u12_8, u12_9]; omega) | (simp only [u1_2, u1_3, u1_4, u1_5, u1_7, u1_8, u1_9, u2_1, u2_3, u2_4, u2_5, u2_7, u2_8, u2_9, u3_1, u3_2, u3_4, u3_5, u3_7, u3_8, u3_9, u11_1, u11_2, u11_3, u11_4, u11_5, u11_7, u11_8, u11_9, u12_1, u12_2, u12_3, u12_4, u12_5, u12_7, u12_8, u12_9]; rw [c1]; omega) | (simp only [u1_2, u1_3, u1_4, u1_5, u1_7, u1_8, u1_9, u2_1, u2_3, u2_4, u2_5, u2_7, u2_8, u2_9, u3_1, u3_2, u3_4, u3_5, u3_7, u3_8, u3_9, u11_1, u11_2, u11_3, u11_4, u11_5, u11_7, u11_8, u11_9, u12_1, u12_2, u12_3, u12_4, u12_5, u12_7, u12_8, u12_9]; rw [c2]; omega) | (simp only [u1_2, u1_3, u1_4, u1_5, u1_7, u1_8, u1_9, u2_1, u2_3, u2_4, u2_5, u2_7, u2_8, u2_9, u3_1, u3_2, u3_4, u3_5, u3_7, u3_8, u3_9, u11_1, u11_2, u11_3, u11_4, u11_5, u11_7, u11_8, u11_9, u12_1, u12_2, u12_3, u12_4, u12_5, u12_7, u12_8, u12_9]; rw [c3]; omega)) (by first | omega | (simp only [u1_2, u1_3, u1_4, u1_5, u1_7, u1_8, u1_9, u2_1, u2_3, u2_4, u2_5, u2_7, u2_8, u2_9, u3_1, u3_2, u3_4, u3_5, u3_7, u3_8, u3_9, u11_1, u11_2, u11_3, u11_4, u11_5, u11_7, u11_8, u11_9, u12_1, u12_2, u12_3, u12_4, u12_5, u12_7, u12_8, u12_9]; omega) | (simp only [u1_2, u1_3, u1_4, u1_5, u1_7, u1_8, u1_9, u2_1, u2_3, u2_4, u2_5, u2_7, u2_8, u2_9, u3_1, u3_2, u3_4, u3_5, u3_7, u3_8, u3_9, u11_1, u11_2, u11_3, u11_4, u11_5, u11_7, u11_8, u11_9, u12_1, u12_2, u12_3, u12_4, u12_5, u12_7, u12_8, u12_9]; rw [c1]; omega) | (simp only [u1_2, u1_3, u1_4, u1_5, u1_7, u1_8, u1_9, u2_1, u2_3, u2_4, u2_5, u2_7, u2_8, u2_9, u3_1, u3_2, u3_4, u3_5, u3_7, u3_8, u3_9, u11_1, u11_2, u11_3, u11_4, u11_5, u11_7, u11_8, u11_9, u12_1, u12_2, u12_3, u12_4, u12_5, u12_7, u12_8, u12_9]; rw [c2]; omega) | (simp only [u1_2, u1_3, u1_4, u1_5, u1_7, u1_8, u1_9, u2_1, u2_3, u2_4, u2_5, u2_7, u2_8, u2_9, u3_1, u3_2, u3_4, u3_5, u3_7, u3_8, u3_9, u11_1, u11_2, u11_3, u11_4, u11_5, u11_7, u11_8, u11_9, u12_1, u12_2, u12_3, u12_4, u12_5, u12_7, u12_8, u12_9]; rw [c3]; omega)) dX5_readsScale_22 ?_
    refine J.aload_n hG dX5_readsScale_23 rfl rfl ?_
    refine J.getR hG ciX5 rfl 1 1 rfl (Nat.le_of_ble_eq_true rfl) rfl fl_X5_18 dX5_readsScale_24 ?_
    refine J.getR hG ciX1 rfl 4 4 rfl (Nat.le_of_ble_eq_true rfl) rfl fl_X5_109 dX5_readsScale_27 ?_
    refine J.iload_n hG dX5_readsScale_30 rfl rfl ?_
    refine J.aload_n hG dX5_readsScale_31 rfl rfl ?_
    refine J.iconst hG dX5_readsScale_32 (by decide) ?_
    refine J.bipush hG dX5_readsScale_33 (by decide) (by decide) ?_
    refine J.callV hG (X5_takesNumber _ m k2.1 k2.2.1 _ _ (by decide)) ok_X5_takesNumber ml_X5_84 rfl rfl rfl rfl (Nat.le_of_ble_eq_true rfl) ⟨Nat.le_of_ble_eq_true rfl, Nat.le_of_ble_eq_true rfl⟩ dX5_readsScale_35 rfl (fun r1 ν2 hp1 => ?_)
    rcases hp1 with ⟨a2, rfl, e2⟩ | ⟨a2, rfl, e2⟩
    · obtain ⟨k3, c2, c2r, -⟩ := Go_nx k2 (by omega) e2
      rw [u2_8, c1] at c2
      have k4 := Go_rg k3 (μ 2 0) (up ν1 8 (μ 2 0) (μ 11 (μ 1 6)) 11 (up ν1 8 (μ 2 0) (μ 11 (μ 1 6)) 1 6)) (by rw [c2])
      refine J.iast hG rfl (by first | omega | (simp only [u1_2, u1_3, u1_4, u1_5, u1_7, u1_8, u1_9, u2_1, u2_3, u2_4, u2_5, u2_7, u2_8, u2_9, u3_1, u3_2, u3_4, u3_5, u3_7, u3_8, u3_9, u11_1, u11_2, u11_3, u11_4, u11_5, u11_7, u11_8, u11_9, u12_1, u12_2, u12_3, u12_4, u12_5, u12_7, u12_8, u12_9]; omega) | (simp only [u1_2, u1_3, u1_4, u1_5, u1_7, u1_8, u1_9, u2_1, u2_3, u2_4, u2_5, u2_7, u2_8, u2_9, u3_1, u3_2, u3_4, u3_5, u3_7, u3_8, u3_9, u11_1, u11_2, u11_3, u11_4, u11_5, u11_7, u11_8, u11_9, u12_1, u12_2, u12_3, u12_4, u12_5, u12_7, u12_8, u12_9]; rw [c1]; omega) | (simp only [u1_2, u1_3, u1_4, u1_5, u1_7, u1_8, u1_9, u2_1, u2_3, u2_4, u2_5, u2_7, u2_8, u2_9, u3_1, u3_2, u3_4, u3_5, u3_7, u3_8, u3_9, u11_1, u11_2, u11_3, u11_4, u11_5, u11_7, u11_8, u11_9, u12_1, u12_2, u12_3, u12_4, u12_5, u12_7, u12_8, u12_9]; rw [c2]; omega) | (simp only [u1_2, u1_3, u1_4, u1_5, u1_7, u1_8, u1_9, u2_1, u2_3, u2_4, u2_5, u2_7, u2_8, u2_9, u3_1, u3_2, u3_4, u3_5, u3_7, u3_8, u3_9, u11_1, u11_2, u11_3, u11_4, u11_5, u11_7, u11_8, u11_9, u12_1, u12_2, u12_3, u12_4, u12_5, u12_7, u12_8, u12_9]; rw [c3]; omega)) (by first | omega | (simp only [u1_2, u1_3, u1_4, u1_5, u1_7, u1_8, u1_9, u2_1, u2_3, u2_4, u2_5, u2_7, u2_8, u2_9, u3_1, u3_2, u3_4, u3_5, u3_7, u3_8, u3_9, u11_1, u11_2, u11_3, u11_4, u11_5, u11_7, u11_8, u11_9, u12_1, u12_2, u12_3, u12_4, u12_5, u12_7, u12_8, u12_9]; omega) | (simp only [u1_2, u1_3, u1_4, u1_5, u1_7, u1_8, u1_9, u2_1, u2_3, u2_4, u2_5, u2_7, u2_8, u2_9, u3_1, u3_2, u3_4, u3_5, u3_7, u3_8, u3_9, u11_1, u11_2, u11_3, u11_4, u11_5, u11_7, u11_8, u11_9, u12_1, u12_2, u12_3, u12_4, u12_5, u12_7, u12_8, u12_9]; rw [c1]; omega) | (simp only [u1_2, u1_3, u1_4, u1_5, u1_7, u1_8, u1_9, u2_1, u2_3, u2_4, u2_5, u2_7, u2_8, u2_9, u3_1, u3_2, u3_4, u3_5, u3_7, u3_8, u3_9, u11_1, u11_2, u11_3, u11_4, u11_5, u11_7, u11_8, u11_9, u12_1, u12_2, u12_3, u12_4, u12_5, u12_7, u12_8, u12_9]; rw [c2]; omega) | (simp only [u1_2, u1_3, u1_4, u1_5, u1_7, u1_8, u1_9, u2_1, u2_3, u2_4, u2_5, u2_7, u2_8, u2_9, u3_1, u3_2, u3_4, u3_5, u3_7, u3_8, u3_9, u11_1, u11_2, u11_3, u11_4, u11_5, u11_7, u11_8, u11_9, u12_1, u12_2, u12_3, u12_4, u12_5, u12_7, u12_8, u12_9]; rw [c3]; omega)) dX5_readsScale_38 ?_
      refine J.aload_n hG dX5_readsScale_39 rfl rfl ?_
      refine J.getR hG ciX5 rfl 2 2 rfl (Nat.le_of_ble_eq_true rfl) rfl fl_X5_25 dX5_readsScale_40 ?_
      refine J.getR hG ciX2 rfl 4 4 rfl (Nat.le_of_ble_eq_true rfl) rfl fl_X5_112 dX5_readsScale_43 ?_
      refine J.iload_n hG dX5_readsScale_46 rfl rfl ?_
      refine J.aload_n hG dX5_readsScale_47 rfl rfl ?_
      refine J.iconst hG dX5_readsScale_48 (by decide) ?_
      refine J.aload_n hG dX5_readsScale_49 rfl rfl ?_
      refine J.getR hG ciX5 rfl 1 1 rfl (Nat.le_of_ble_eq_true rfl) rfl fl_X5_18 dX5_readsScale_50 ?_
      refine J.getR hG ciX1 rfl 4 4 rfl (Nat.le_of_ble_eq_true rfl) rfl fl_X5_109 dX5_readsScale_53 ?_
      refine J.iload_n hG dX5_readsScale_56 rfl rfl ?_
      refine J.iald hG rfl (by first | omega | (simp only [u1_2, u1_3, u1_4, u1_5, u1_7, u1_8, u1_9, u2_1, u2_3, u2_4, u2_5, u2_7, u2_8, u2_9, u3_1, u3_2, u3_4, u3_5, u3_7, u3_8, u3_9, u11_1, u11_2, u11_3, u11_4, u11_5, u11_7, u11_8, u11_9, u12_1, u12_2, u12_3, u12_4, u12_5, u12_7, u12_8, u12_9]; omega) | (simp only [u1_2, u1_3, u1_4, u1_5, u1_7, u1_8, u1_9, u2_1, u2_3, u2_4, u2_5, u2_7, u2_8, u2_9, u3_1, u3_2, u3_4, u3_5, u3_7, u3_8, u3_9, u11_1, u11_2, u11_3, u11_4, u11_5, u11_7, u11_8, u11_9, u12_1, u12_2, u12_3, u12_4, u12_5, u12_7, u12_8, u12_9]; rw [c1]; omega) | (simp only [u1_2, u1_3, u1_4, u1_5, u1_7, u1_8, u1_9, u2_1, u2_3, u2_4, u2_5, u2_7, u2_8, u2_9, u3_1, u3_2, u3_4, u3_5, u3_7, u3_8, u3_9, u11_1, u11_2, u11_3, u11_4, u11_5, u11_7, u11_8, u11_9, u12_1, u12_2, u12_3, u12_4, u12_5, u12_7, u12_8, u12_9]; rw [c2]; omega) | (simp only [u1_2, u1_3, u1_4, u1_5, u1_7, u1_8, u1_9, u2_1, u2_3, u2_4, u2_5, u2_7, u2_8, u2_9, u3_1, u3_2, u3_4, u3_5, u3_7, u3_8, u3_9, u11_1, u11_2, u11_3, u11_4, u11_5, u11_7, u11_8, u11_9, u12_1, u12_2, u12_3, u12_4, u12_5, u12_7, u12_8, u12_9]; rw [c3]; omega)) (by first | omega | (simp only [u1_2, u1_3, u1_4, u1_5, u1_7, u1_8, u1_9, u2_1, u2_3, u2_4, u2_5, u2_7, u2_8, u2_9, u3_1, u3_2, u3_4, u3_5, u3_7, u3_8, u3_9, u11_1, u11_2, u11_3, u11_4, u11_5, u11_7, u11_8, u11_9, u12_1, u12_2, u12_3, u12_4, u12_5, u12_7, u12_8, u12_9]; omega) | (simp only [u1_2, u1_3, u1_4, u1_5, u1_7, u1_8, u1_9, u2_1, u2_3, u2_4, u2_5, u2_7, u2_8, u2_9, u3_1, u3_2, u3_4, u3_5, u3_7, u3_8, u3_9, u11_1, u11_2, u11_3, u11_4, u11_5, u11_7, u11_8, u11_9, u12_1, u12_2, u12_3, u12_4, u12_5, u12_7, u12_8, u12_9]; rw [c1]; omega) | (simp only [u1_2, u1_3, u1_4, u1_5, u1_7, u1_8, u1_9, u2_1, u2_3, u2_4, u2_5, u2_7, u2_8, u2_9, u3_1, u3_2, u3_4, u3_5, u3_7, u3_8, u3_9, u11_1, u11_2, u11_3, u11_4, u11_5, u11_7, u11_8, u11_9, u12_1, u12_2, u12_3, u12_4, u12_5, u12_7, u12_8, u12_9]; rw [c2]; omega) | (simp only [u1_2, u1_3, u1_4, u1_5, u1_7, u1_8, u1_9, u2_1, u2_3, u2_4, u2_5, u2_7, u2_8, u2_9, u3_1, u3_2, u3_4, u3_5, u3_7, u3_8, u3_9, u11_1, u11_2, u11_3, u11_4, u11_5, u11_7, u11_8, u11_9, u12_1, u12_2, u12_3, u12_4, u12_5, u12_7, u12_8, u12_9]; rw [c3]; omega)) dX5_readsScale_57 ?_
      refine J.callV hG (X5_takesNumber _ m k4.1 k4.2.1 _ _ (by decide)) ok_X5_takesNumber ml_X5_84 rfl rfl rfl rfl (Nat.le_of_ble_eq_true rfl) ⟨Nat.le_of_ble_eq_true rfl, Nat.le_of_ble_eq_true rfl⟩ dX5_readsScale_58 rfl (fun r1 ν3 hp1 => ?_)
      rcases hp1 with ⟨a3, rfl, e3⟩ | ⟨a3, rfl, e3⟩
      · obtain ⟨k5, c3, c3r, -⟩ := Go_nx k4 (by omega) e3
        rw [u2_3, c2] at c3
        have k6 := Go_w k5 9 (μ 2 0) (up ν2 3 (μ 2 0) (up ν1 8 (μ 2 0) (μ 11 (μ 1 6)) 11 (up ν1 8 (μ 2 0) (μ 11 (μ 1 6)) 1 6)) 11 (up ν2 3 (μ 2 0) (up ν1 8 (μ 2 0) (μ 11 (μ 1 6)) 11 (up ν1 8 (μ 2 0) (μ 11 (μ 1 6)) 1 6)) 1 6)) (by omega)
        refine J.iast hG rfl (by first | omega | (simp only [u1_2, u1_3, u1_4, u1_5, u1_7, u1_8, u1_9, u2_1, u2_3, u2_4, u2_5, u2_7, u2_8, u2_9, u3_1, u3_2, u3_4, u3_5, u3_7, u3_8, u3_9, u11_1, u11_2, u11_3, u11_4, u11_5, u11_7, u11_8, u11_9, u12_1, u12_2, u12_3, u12_4, u12_5, u12_7, u12_8, u12_9]; omega) | (simp only [u1_2, u1_3, u1_4, u1_5, u1_7, u1_8, u1_9, u2_1, u2_3, u2_4, u2_5, u2_7, u2_8, u2_9, u3_1, u3_2, u3_4, u3_5, u3_7, u3_8, u3_9, u11_1, u11_2, u11_3, u11_4, u11_5, u11_7, u11_8, u11_9, u12_1, u12_2, u12_3, u12_4, u12_5, u12_7, u12_8, u12_9]; rw [c1]; omega) | (simp only [u1_2, u1_3, u1_4, u1_5, u1_7, u1_8, u1_9, u2_1, u2_3, u2_4, u2_5, u2_7, u2_8, u2_9, u3_1, u3_2, u3_4, u3_5, u3_7, u3_8, u3_9, u11_1, u11_2, u11_3, u11_4, u11_5, u11_7, u11_8, u11_9, u12_1, u12_2, u12_3, u12_4, u12_5, u12_7, u12_8, u12_9]; rw [c2]; omega) | (simp only [u1_2, u1_3, u1_4, u1_5, u1_7, u1_8, u1_9, u2_1, u2_3, u2_4, u2_5, u2_7, u2_8, u2_9, u3_1, u3_2, u3_4, u3_5, u3_7, u3_8, u3_9, u11_1, u11_2, u11_3, u11_4, u11_5, u11_7, u11_8, u11_9, u12_1, u12_2, u12_3, u12_4, u12_5, u12_7, u12_8, u12_9]; rw [c3]; omega)) (by first | omega | (simp only [u1_2, u1_3, u1_4, u1_5, u1_7, u1_8, u1_9, u2_1, u2_3, u2_4, u2_5, u2_7, u2_8, u2_9, u3_1, u3_2, u3_4, u3_5, u3_7, u3_8, u3_9, u11_1, u11_2, u11_3, u11_4, u11_5, u11_7, u11_8, u11_9, u12_1, u12_2, u12_3, u12_4, u12_5, u12_7, u12_8, u12_9]; omega) | (simp only [u1_2, u1_3, u1_4, u1_5, u1_7, u1_8, u1_9, u2_1, u2_3, u2_4, u2_5, u2_7, u2_8, u2_9, u3_1, u3_2, u3_4, u3_5, u3_7, u3_8, u3_9, u11_1, u11_2, u11_3, u11_4, u11_5, u11_7, u11_8, u11_9, u12_1, u12_2, u12_3, u12_4, u12_5, u12_7, u12_8, u12_9]; rw [c1]; omega) | (simp only [u1_2, u1_3, u1_4, u1_5, u1_7, u1_8, u1_9, u2_1, u2_3, u2_4, u2_5, u2_7, u2_8, u2_9, u3_1, u3_2, u3_4, u3_5, u3_7, u3_8, u3_9, u11_1, u11_2, u11_3, u11_4, u11_5, u11_7, u11_8, u11_9, u12_1, u12_2, u12_3, u12_4, u12_5, u12_7, u12_8, u12_9]; rw [c2]; omega) | (simp only [u1_2, u1_3, u1_4, u1_5, u1_7, u1_8, u1_9, u2_1, u2_3, u2_4, u2_5, u2_7, u2_8, u2_9, u3_1, u3_2, u3_4, u3_5, u3_7, u3_8, u3_9, u11_1, u11_2, u11_3, u11_4, u11_5, u11_7, u11_8, u11_9, u12_1, u12_2, u12_3, u12_4, u12_5, u12_7, u12_8, u12_9]; rw [c3]; omega)) dX5_readsScale_61 ?_
        refine J.aload_n hG dX5_readsScale_62 rfl rfl ?_
        refine J.getR hG ciX5 rfl 1 1 rfl (Nat.le_of_ble_eq_true rfl) rfl fl_X5_18 dX5_readsScale_63 ?_
        refine J.dup hG dX5_readsScale_66 (fun _ => rfl) ?_
        refine J.getI hG ciX1 rfl 0 0 rfl (Nat.le_of_ble_eq_true rfl) rfl fl_X5_103 dX5_readsScale_67 ?_
        refine J.iconst hG dX5_readsScale_70 (by decide) ?_
        refine J.iadd hG dX5_readsScale_71 (fun _ _ => (by first | omega | (simp only [u1_2, u1_3, u1_4, u1_5, u1_7, u1_8, u1_9, u2_1, u2_3, u2_4, u2_5, u2_7, u2_8, u2_9, u3_1, u3_2, u3_4, u3_5, u3_7, u3_8, u3_9, u11_1, u11_2, u11_3, u11_4, u11_5, u11_7, u11_8, u11_9, u12_1, u12_2, u12_3, u12_4, u12_5, u12_7, u12_8, u12_9]; omega) | (simp only [u1_2, u1_3, u1_4, u1_5, u1_7, u1_8, u1_9, u2_1, u2_3, u2_4, u2_5, u2_7, u2_8, u2_9, u3_1, u3_2, u3_4, u3_5, u3_7, u3_8, u3_9, u11_1, u11_2, u11_3, u11_4, u11_5, u11_7, u11_8, u11_9, u12_1, u12_2, u12_3, u12_4, u12_5, u12_7, u12_8, u12_9]; rw [c1]; omega) | (simp only [u1_2, u1_3, u1_4, u1_5, u1_7, u1_8, u1_9, u2_1, u2_3, u2_4, u2_5, u2_7, u2_8, u2_9, u3_1, u3_2, u3_4, u3_5, u3_7, u3_8, u3_9, u11_1, u11_2, u11_3, u11_4, u11_5, u11_7, u11_8, u11_9, u12_1, u12_2, u12_3, u12_4, u12_5, u12_7, u12_8, u12_9]; rw [c2]; omega) | (simp only [u1_2, u1_3, u1_4, u1_5, u1_7, u1_8, u1_9, u2_1, u2_3, u2_4, u2_5, u2_7, u2_8, u2_9, u3_1, u3_2, u3_4, u3_5, u3_7, u3_8, u3_9, u11_1, u11_2, u11_3, u11_4, u11_5, u11_7, u11_8, u11_9, u12_1, u12_2, u12_3, u12_4, u12_5, u12_7, u12_8, u12_9]; rw [c3]; omega))) ?_
        refine J.putI hG ciX1 rfl 0 0 rfl (Nat.le_of_ble_eq_true rfl) rfl fl_X5_103 rfl rfl dX5_readsScale_72 ?_
        refine J.vret hG dX5_readsScale_75 ?_
        rw [hX]; dsimp only
        refine ⟨rfl, Or.inl ⟨by unfold scaleS; rw [numS_ok a1, ← e1]; (try dsimp only); rw [numS_ok a2, ← e2]; (try dsimp only); rw [numS_ok a3, ← e3]; rfl, Go_2 k6 _ _ (PI_2 k6.1 _ _ (fun _ => ⟨rfl, by rw [u2_9, c3]; omega, ?_⟩) (fun w => absurd w (by decide)) (fun w => absurd w (by decide)))⟩⟩
        rw [u2_9, u3_9, c3, c3r, up_self]
        exact a2
      · obtain ⟨hb, hf, c3, c3r⟩ := Go_bad k4 e3
        rw [u2_3, c2] at c3
        refine J.iast hG rfl (by first | omega | (simp only [u1_2, u1_3, u1_4, u1_5, u1_7, u1_8, u1_9, u2_1, u2_3, u2_4, u2_5, u2_7, u2_8, u2_9, u3_1, u3_2, u3_4, u3_5, u3_7, u3_8, u3_9, u11_1, u11_2, u11_3, u11_4, u11_5, u11_7, u11_8, u11_9, u12_1, u12_2, u12_3, u12_4, u12_5, u12_7, u12_8, u12_9]; omega) | (simp only [u1_2, u1_3, u1_4, u1_5, u1_7, u1_8, u1_9, u2_1, u2_3, u2_4, u2_5, u2_7, u2_8, u2_9, u3_1, u3_2, u3_4, u3_5, u3_7, u3_8, u3_9, u11_1, u11_2, u11_3, u11_4, u11_5, u11_7, u11_8, u11_9, u12_1, u12_2, u12_3, u12_4, u12_5, u12_7, u12_8, u12_9]; rw [c1]; omega) | (simp only [u1_2, u1_3, u1_4, u1_5, u1_7, u1_8, u1_9, u2_1, u2_3, u2_4, u2_5, u2_7, u2_8, u2_9, u3_1, u3_2, u3_4, u3_5, u3_7, u3_8, u3_9, u11_1, u11_2, u11_3, u11_4, u11_5, u11_7, u11_8, u11_9, u12_1, u12_2, u12_3, u12_4, u12_5, u12_7, u12_8, u12_9]; rw [c2]; omega) | (simp only [u1_2, u1_3, u1_4, u1_5, u1_7, u1_8, u1_9, u2_1, u2_3, u2_4, u2_5, u2_7, u2_8, u2_9, u3_1, u3_2, u3_4, u3_5, u3_7, u3_8, u3_9, u11_1, u11_2, u11_3, u11_4, u11_5, u11_7, u11_8, u11_9, u12_1, u12_2, u12_3, u12_4, u12_5, u12_7, u12_8, u12_9]; rw [c3]; omega)) (by first | omega | (simp only [u1_2, u1_3, u1_4, u1_5, u1_7, u1_8, u1_9, u2_1, u2_3, u2_4, u2_5, u2_7, u2_8, u2_9, u3_1, u3_2, u3_4, u3_5, u3_7, u3_8, u3_9, u11_1, u11_2, u11_3, u11_4, u11_5, u11_7, u11_8, u11_9, u12_1, u12_2, u12_3, u12_4, u12_5, u12_7, u12_8, u12_9]; omega) | (simp only [u1_2, u1_3, u1_4, u1_5, u1_7, u1_8, u1_9, u2_1, u2_3, u2_4, u2_5, u2_7, u2_8, u2_9, u3_1, u3_2, u3_4, u3_5, u3_7, u3_8, u3_9, u11_1, u11_2, u11_3, u11_4, u11_5, u11_7, u11_8, u11_9, u12_1, u12_2, u12_3, u12_4, u12_5, u12_7, u12_8, u12_9]; rw [c1]; omega) | (simp only [u1_2, u1_3, u1_4, u1_5, u1_7, u1_8, u1_9, u2_1, u2_3, u2_4, u2_5, u2_7, u2_8, u2_9, u3_1, u3_2, u3_4, u3_5, u3_7, u3_8, u3_9, u11_1, u11_2, u11_3, u11_4, u11_5, u11_7, u11_8, u11_9, u12_1, u12_2, u12_3, u12_4, u12_5, u12_7, u12_8, u12_9]; rw [c2]; omega) | (simp only [u1_2, u1_3, u1_4, u1_5, u1_7, u1_8, u1_9, u2_1, u2_3, u2_4, u2_5, u2_7, u2_8, u2_9, u3_1, u3_2, u3_4, u3_5, u3_7, u3_8, u3_9, u11_1, u11_2, u11_3, u11_4, u11_5, u11_7, u11_8, u11_9, u12_1, u12_2, u12_3, u12_4, u12_5, u12_7, u12_8, u12_9]; rw [c3]; omega)) dX5_readsScale_61 ?_
        refine J.aload_n hG dX5_readsScale_62 rfl rfl ?_
        refine J.getR hG ciX5 rfl 1 1 rfl (Nat.le_of_ble_eq_true rfl) rfl fl_X5_18 dX5_readsScale_63 ?_
        refine J.dup hG dX5_readsScale_66 (fun _ => rfl) ?_
        refine J.getI hG ciX1 rfl 0 0 rfl (Nat.le_of_ble_eq_true rfl) rfl fl_X5_103 dX5_readsScale_67 ?_
        refine J.iconst hG dX5_readsScale_70 (by decide) ?_
        refine J.iadd hG dX5_readsScale_71 (fun _ _ => (by first | omega | (simp only [u1_2, u1_3, u1_4, u1_5, u1_7, u1_8, u1_9, u2_1, u2_3, u2_4, u2_5, u2_7, u2_8, u2_9, u3_1, u3_2, u3_4, u3_5, u3_7, u3_8, u3_9, u11_1, u11_2, u11_3, u11_4, u11_5, u11_7, u11_8, u11_9, u12_1, u12_2, u12_3, u12_4, u12_5, u12_7, u12_8, u12_9]; omega) | (simp only [u1_2, u1_3, u1_4, u1_5, u1_7, u1_8, u1_9, u2_1, u2_3, u2_4, u2_5, u2_7, u2_8, u2_9, u3_1, u3_2, u3_4, u3_5, u3_7, u3_8, u3_9, u11_1, u11_2, u11_3, u11_4, u11_5, u11_7, u11_8, u11_9, u12_1, u12_2, u12_3, u12_4, u12_5, u12_7, u12_8, u12_9]; rw [c1]; omega) | (simp only [u1_2, u1_3, u1_4, u1_5, u1_7, u1_8, u1_9, u2_1, u2_3, u2_4, u2_5, u2_7, u2_8, u2_9, u3_1, u3_2, u3_4, u3_5, u3_7, u3_8, u3_9, u11_1, u11_2, u11_3, u11_4, u11_5, u11_7, u11_8, u11_9, u12_1, u12_2, u12_3, u12_4, u12_5, u12_7, u12_8, u12_9]; rw [c2]; omega) | (simp only [u1_2, u1_3, u1_4, u1_5, u1_7, u1_8, u1_9, u2_1, u2_3, u2_4, u2_5, u2_7, u2_8, u2_9, u3_1, u3_2, u3_4, u3_5, u3_7, u3_8, u3_9, u11_1, u11_2, u11_3, u11_4, u11_5, u11_7, u11_8, u11_9, u12_1, u12_2, u12_3, u12_4, u12_5, u12_7, u12_8, u12_9]; rw [c3]; omega))) ?_
        refine J.putI hG ciX1 rfl 0 0 rfl (Nat.le_of_ble_eq_true rfl) rfl fl_X5_103 rfl rfl dX5_readsScale_72 ?_
        refine J.vret hG dX5_readsScale_75 ?_
        rw [hX]; dsimp only
        refine ⟨rfl, Or.inr ⟨by unfold scaleS; rw [numS_ok a1, ← e1]; (try dsimp only); rw [numS_ok a2, ← e2]; (try dsimp only); rw [numS_no a3]; simp only [u1_2, u1_3, u1_4, u1_5, u1_7, u1_8, u1_9, u2_1, u2_3, u2_4, u2_5, u2_7, u2_8, u2_9, u3_1, u3_2, u3_4, u3_5, u3_7, u3_8, u3_9, u11_1, u11_2, u11_3, u11_4, u11_5, u11_7, u11_8, u11_9, u12_1, u12_2, u12_3, u12_4, u12_5, u12_7, u12_8, u12_9]; rw [hf]; (try simp only [u1_2, u1_3, u1_4, u1_5, u1_7, u1_8, u1_9, u2_1, u2_3, u2_4, u2_5, u2_7, u2_8, u2_9, u3_1, u3_2, u3_4, u3_5, u3_7, u3_8, u3_9, u11_1, u11_2, u11_3, u11_4, u11_5, u11_7, u11_8, u11_9, u12_1, u12_2, u12_3, u12_4, u12_5, u12_7, u12_8, u12_9]), ?_⟩⟩
        first | exact Bad_w (Bad_w (Bad_w (Bad_w hb _ _ _ (by omega)) _ _ _ (by omega)) _ _ _ (by omega)) _ _ _ (by omega) | exact Bad_w (Bad_w (Bad_w hb _ _ _ (by omega)) _ _ _ (by omega)) _ _ _ (by omega) | exact Bad_w (Bad_w hb _ _ _ (by omega)) _ _ _ (by omega)
    · obtain ⟨hb, hf, c2, c2r⟩ := Go_bad k2 e2
      rw [u2_8, c1] at c2
      refine J.iast hG rfl (by first | omega | (simp only [u1_2, u1_3, u1_4, u1_5, u1_7, u1_8, u1_9, u2_1, u2_3, u2_4, u2_5, u2_7, u2_8, u2_9, u3_1, u3_2, u3_4, u3_5, u3_7, u3_8, u3_9, u11_1, u11_2, u11_3, u11_4, u11_5, u11_7, u11_8, u11_9, u12_1, u12_2, u12_3, u12_4, u12_5, u12_7, u12_8, u12_9]; omega) | (simp only [u1_2, u1_3, u1_4, u1_5, u1_7, u1_8, u1_9, u2_1, u2_3, u2_4, u2_5, u2_7, u2_8, u2_9, u3_1, u3_2, u3_4, u3_5, u3_7, u3_8, u3_9, u11_1, u11_2, u11_3, u11_4, u11_5, u11_7, u11_8, u11_9, u12_1, u12_2, u12_3, u12_4, u12_5, u12_7, u12_8, u12_9]; rw [c1]; omega) | (simp only [u1_2, u1_3, u1_4, u1_5, u1_7, u1_8, u1_9, u2_1, u2_3, u2_4, u2_5, u2_7, u2_8, u2_9, u3_1, u3_2, u3_4, u3_5, u3_7, u3_8, u3_9, u11_1, u11_2, u11_3, u11_4, u11_5, u11_7, u11_8, u11_9, u12_1, u12_2, u12_3, u12_4, u12_5, u12_7, u12_8, u12_9]; rw [c2]; omega) | (simp only [u1_2, u1_3, u1_4, u1_5, u1_7, u1_8, u1_9, u2_1, u2_3, u2_4, u2_5, u2_7, u2_8, u2_9, u3_1, u3_2, u3_4, u3_5, u3_7, u3_8, u3_9, u11_1, u11_2, u11_3, u11_4, u11_5, u11_7, u11_8, u11_9, u12_1, u12_2, u12_3, u12_4, u12_5, u12_7, u12_8, u12_9]; rw [c3]; omega)) (by first | omega | (simp only [u1_2, u1_3, u1_4, u1_5, u1_7, u1_8, u1_9, u2_1, u2_3, u2_4, u2_5, u2_7, u2_8, u2_9, u3_1, u3_2, u3_4, u3_5, u3_7, u3_8, u3_9, u11_1, u11_2, u11_3, u11_4, u11_5, u11_7, u11_8, u11_9, u12_1, u12_2, u12_3, u12_4, u12_5, u12_7, u12_8, u12_9]; omega) | (simp only [u1_2, u1_3, u1_4, u1_5, u1_7, u1_8, u1_9, u2_1, u2_3, u2_4, u2_5, u2_7, u2_8, u2_9, u3_1, u3_2, u3_4, u3_5, u3_7, u3_8, u3_9, u11_1, u11_2, u11_3, u11_4, u11_5, u11_7, u11_8, u11_9, u12_1, u12_2, u12_3, u12_4, u12_5, u12_7, u12_8, u12_9]; rw [c1]; omega) | (simp only [u1_2, u1_3, u1_4, u1_5, u1_7, u1_8, u1_9, u2_1, u2_3, u2_4, u2_5, u2_7, u2_8, u2_9, u3_1, u3_2, u3_4, u3_5, u3_7, u3_8, u3_9, u11_1, u11_2, u11_3, u11_4, u11_5, u11_7, u11_8, u11_9, u12_1, u12_2, u12_3, u12_4, u12_5, u12_7, u12_8, u12_9]; rw [c2]; omega) | (simp only [u1_2, u1_3, u1_4, u1_5, u1_7, u1_8, u1_9, u2_1, u2_3, u2_4, u2_5, u2_7, u2_8, u2_9, u3_1, u3_2, u3_4, u3_5, u3_7, u3_8, u3_9, u11_1, u11_2, u11_3, u11_4, u11_5, u11_7, u11_8, u11_9, u12_1, u12_2, u12_3, u12_4, u12_5, u12_7, u12_8, u12_9]; rw [c3]; omega)) dX5_readsScale_38 ?_
      refine J.aload_n hG dX5_readsScale_39 rfl rfl ?_
      refine J.getR hG ciX5 rfl 2 2 rfl (Nat.le_of_ble_eq_true rfl) rfl fl_X5_25 dX5_readsScale_40 ?_
      refine J.getR hG ciX2 rfl 4 4 rfl (Nat.le_of_ble_eq_true rfl) rfl fl_X5_112 dX5_readsScale_43 ?_
      refine J.iload_n hG dX5_readsScale_46 rfl rfl ?_
      refine J.aload_n hG dX5_readsScale_47 rfl rfl ?_
      refine J.iconst hG dX5_readsScale_48 (by decide) ?_
      refine J.aload_n hG dX5_readsScale_49 rfl rfl ?_
      refine J.getR hG ciX5 rfl 1 1 rfl (Nat.le_of_ble_eq_true rfl) rfl fl_X5_18 dX5_readsScale_50 ?_
      refine J.getR hG ciX1 rfl 4 4 rfl (Nat.le_of_ble_eq_true rfl) rfl fl_X5_109 dX5_readsScale_53 ?_
      refine J.iload_n hG dX5_readsScale_56 rfl rfl ?_
      refine J.iald hG rfl (by first | omega | (simp only [u1_2, u1_3, u1_4, u1_5, u1_7, u1_8, u1_9, u2_1, u2_3, u2_4, u2_5, u2_7, u2_8, u2_9, u3_1, u3_2, u3_4, u3_5, u3_7, u3_8, u3_9, u11_1, u11_2, u11_3, u11_4, u11_5, u11_7, u11_8, u11_9, u12_1, u12_2, u12_3, u12_4, u12_5, u12_7, u12_8, u12_9]; omega) | (simp only [u1_2, u1_3, u1_4, u1_5, u1_7, u1_8, u1_9, u2_1, u2_3, u2_4, u2_5, u2_7, u2_8, u2_9, u3_1, u3_2, u3_4, u3_5, u3_7, u3_8, u3_9, u11_1, u11_2, u11_3, u11_4, u11_5, u11_7, u11_8, u11_9, u12_1, u12_2, u12_3, u12_4, u12_5, u12_7, u12_8, u12_9]; rw [c1]; omega) | (simp only [u1_2, u1_3, u1_4, u1_5, u1_7, u1_8, u1_9, u2_1, u2_3, u2_4, u2_5, u2_7, u2_8, u2_9, u3_1, u3_2, u3_4, u3_5, u3_7, u3_8, u3_9, u11_1, u11_2, u11_3, u11_4, u11_5, u11_7, u11_8, u11_9, u12_1, u12_2, u12_3, u12_4, u12_5, u12_7, u12_8, u12_9]; rw [c2]; omega) | (simp only [u1_2, u1_3, u1_4, u1_5, u1_7, u1_8, u1_9, u2_1, u2_3, u2_4, u2_5, u2_7, u2_8, u2_9, u3_1, u3_2, u3_4, u3_5, u3_7, u3_8, u3_9, u11_1, u11_2, u11_3, u11_4, u11_5, u11_7, u11_8, u11_9, u12_1, u12_2, u12_3, u12_4, u12_5, u12_7, u12_8, u12_9]; rw [c3]; omega)) (by first | omega | (simp only [u1_2, u1_3, u1_4, u1_5, u1_7, u1_8, u1_9, u2_1, u2_3, u2_4, u2_5, u2_7, u2_8, u2_9, u3_1, u3_2, u3_4, u3_5, u3_7, u3_8, u3_9, u11_1, u11_2, u11_3, u11_4, u11_5, u11_7, u11_8, u11_9, u12_1, u12_2, u12_3, u12_4, u12_5, u12_7, u12_8, u12_9]; omega) | (simp only [u1_2, u1_3, u1_4, u1_5, u1_7, u1_8, u1_9, u2_1, u2_3, u2_4, u2_5, u2_7, u2_8, u2_9, u3_1, u3_2, u3_4, u3_5, u3_7, u3_8, u3_9, u11_1, u11_2, u11_3, u11_4, u11_5, u11_7, u11_8, u11_9, u12_1, u12_2, u12_3, u12_4, u12_5, u12_7, u12_8, u12_9]; rw [c1]; omega) | (simp only [u1_2, u1_3, u1_4, u1_5, u1_7, u1_8, u1_9, u2_1, u2_3, u2_4, u2_5, u2_7, u2_8, u2_9, u3_1, u3_2, u3_4, u3_5, u3_7, u3_8, u3_9, u11_1, u11_2, u11_3, u11_4, u11_5, u11_7, u11_8, u11_9, u12_1, u12_2, u12_3, u12_4, u12_5, u12_7, u12_8, u12_9]; rw [c2]; omega) | (simp only [u1_2, u1_3, u1_4, u1_5, u1_7, u1_8, u1_9, u2_1, u2_3, u2_4, u2_5, u2_7, u2_8, u2_9, u3_1, u3_2, u3_4, u3_5, u3_7, u3_8, u3_9, u11_1, u11_2, u11_3, u11_4, u11_5, u11_7, u11_8, u11_9, u12_1, u12_2, u12_3, u12_4, u12_5, u12_7, u12_8, u12_9]; rw [c3]; omega)) dX5_readsScale_57 ?_
      refine J.callV hG (X5_takesNumber_b _ (by simp only [u1_2, u1_3, u1_4, u1_5, u1_7, u1_8, u1_9, u2_1, u2_3, u2_4, u2_5, u2_7, u2_8, u2_9, u3_1, u3_2, u3_4, u3_5, u3_7, u3_8, u3_9, u11_1, u11_2, u11_3, u11_4, u11_5, u11_7, u11_8, u11_9, u12_1, u12_2, u12_3, u12_4, u12_5, u12_7, u12_8, u12_9]; have := hb.2.2.2.2.1; omega) (by simp only [u1_2, u1_3, u1_4, u1_5, u1_7, u1_8, u1_9, u2_1, u2_3, u2_4, u2_5, u2_7, u2_8, u2_9, u3_1, u3_2, u3_4, u3_5, u3_7, u3_8, u3_9, u11_1, u11_2, u11_3, u11_4, u11_5, u11_7, u11_8, u11_9, u12_1, u12_2, u12_3, u12_4, u12_5, u12_7, u12_8, u12_9]; exact hb.2.2.1) _ _) ok_X5_takesNumber ml_X5_84 rfl rfl rfl rfl (Nat.le_of_ble_eq_true rfl) ⟨Nat.le_of_ble_eq_true rfl, Nat.le_of_ble_eq_true rfl⟩ dX5_readsScale_58 rfl (fun r1 νb2 hp1 => ?_)
      obtain ⟨rfl, rfl⟩ := hp1
      refine J.iast hG rfl (by first | omega | (simp only [u1_2, u1_3, u1_4, u1_5, u1_7, u1_8, u1_9, u2_1, u2_3, u2_4, u2_5, u2_7, u2_8, u2_9, u3_1, u3_2, u3_4, u3_5, u3_7, u3_8, u3_9, u11_1, u11_2, u11_3, u11_4, u11_5, u11_7, u11_8, u11_9, u12_1, u12_2, u12_3, u12_4, u12_5, u12_7, u12_8, u12_9]; omega) | (simp only [u1_2, u1_3, u1_4, u1_5, u1_7, u1_8, u1_9, u2_1, u2_3, u2_4, u2_5, u2_7, u2_8, u2_9, u3_1, u3_2, u3_4, u3_5, u3_7, u3_8, u3_9, u11_1, u11_2, u11_3, u11_4, u11_5, u11_7, u11_8, u11_9, u12_1, u12_2, u12_3, u12_4, u12_5, u12_7, u12_8, u12_9]; rw [c1]; omega) | (simp only [u1_2, u1_3, u1_4, u1_5, u1_7, u1_8, u1_9, u2_1, u2_3, u2_4, u2_5, u2_7, u2_8, u2_9, u3_1, u3_2, u3_4, u3_5, u3_7, u3_8, u3_9, u11_1, u11_2, u11_3, u11_4, u11_5, u11_7, u11_8, u11_9, u12_1, u12_2, u12_3, u12_4, u12_5, u12_7, u12_8, u12_9]; rw [c2]; omega) | (simp only [u1_2, u1_3, u1_4, u1_5, u1_7, u1_8, u1_9, u2_1, u2_3, u2_4, u2_5, u2_7, u2_8, u2_9, u3_1, u3_2, u3_4, u3_5, u3_7, u3_8, u3_9, u11_1, u11_2, u11_3, u11_4, u11_5, u11_7, u11_8, u11_9, u12_1, u12_2, u12_3, u12_4, u12_5, u12_7, u12_8, u12_9]; rw [c3]; omega)) (by first | omega | (simp only [u1_2, u1_3, u1_4, u1_5, u1_7, u1_8, u1_9, u2_1, u2_3, u2_4, u2_5, u2_7, u2_8, u2_9, u3_1, u3_2, u3_4, u3_5, u3_7, u3_8, u3_9, u11_1, u11_2, u11_3, u11_4, u11_5, u11_7, u11_8, u11_9, u12_1, u12_2, u12_3, u12_4, u12_5, u12_7, u12_8, u12_9]; omega) | (simp only [u1_2, u1_3, u1_4, u1_5, u1_7, u1_8, u1_9, u2_1, u2_3, u2_4, u2_5, u2_7, u2_8, u2_9, u3_1, u3_2, u3_4, u3_5, u3_7, u3_8, u3_9, u11_1, u11_2, u11_3, u11_4, u11_5, u11_7, u11_8, u11_9, u12_1, u12_2, u12_3, u12_4, u12_5, u12_7, u12_8, u12_9]; rw [c1]; omega) | (simp only [u1_2, u1_3, u1_4, u1_5, u1_7, u1_8, u1_9, u2_1, u2_3, u2_4, u2_5, u2_7, u2_8, u2_9, u3_1, u3_2, u3_4, u3_5, u3_7, u3_8, u3_9, u11_1, u11_2, u11_3, u11_4, u11_5, u11_7, u11_8, u11_9, u12_1, u12_2, u12_3, u12_4, u12_5, u12_7, u12_8, u12_9]; rw [c2]; omega) | (simp only [u1_2, u1_3, u1_4, u1_5, u1_7, u1_8, u1_9, u2_1, u2_3, u2_4, u2_5, u2_7, u2_8, u2_9, u3_1, u3_2, u3_4, u3_5, u3_7, u3_8, u3_9, u11_1, u11_2, u11_3, u11_4, u11_5, u11_7, u11_8, u11_9, u12_1, u12_2, u12_3, u12_4, u12_5, u12_7, u12_8, u12_9]; rw [c3]; omega)) dX5_readsScale_61 ?_
      refine J.aload_n hG dX5_readsScale_62 rfl rfl ?_
      refine J.getR hG ciX5 rfl 1 1 rfl (Nat.le_of_ble_eq_true rfl) rfl fl_X5_18 dX5_readsScale_63 ?_
      refine J.dup hG dX5_readsScale_66 (fun _ => rfl) ?_
      refine J.getI hG ciX1 rfl 0 0 rfl (Nat.le_of_ble_eq_true rfl) rfl fl_X5_103 dX5_readsScale_67 ?_
      refine J.iconst hG dX5_readsScale_70 (by decide) ?_
      refine J.iadd hG dX5_readsScale_71 (fun _ _ => (by first | omega | (simp only [u1_2, u1_3, u1_4, u1_5, u1_7, u1_8, u1_9, u2_1, u2_3, u2_4, u2_5, u2_7, u2_8, u2_9, u3_1, u3_2, u3_4, u3_5, u3_7, u3_8, u3_9, u11_1, u11_2, u11_3, u11_4, u11_5, u11_7, u11_8, u11_9, u12_1, u12_2, u12_3, u12_4, u12_5, u12_7, u12_8, u12_9]; omega) | (simp only [u1_2, u1_3, u1_4, u1_5, u1_7, u1_8, u1_9, u2_1, u2_3, u2_4, u2_5, u2_7, u2_8, u2_9, u3_1, u3_2, u3_4, u3_5, u3_7, u3_8, u3_9, u11_1, u11_2, u11_3, u11_4, u11_5, u11_7, u11_8, u11_9, u12_1, u12_2, u12_3, u12_4, u12_5, u12_7, u12_8, u12_9]; rw [c1]; omega) | (simp only [u1_2, u1_3, u1_4, u1_5, u1_7, u1_8, u1_9, u2_1, u2_3, u2_4, u2_5, u2_7, u2_8, u2_9, u3_1, u3_2, u3_4, u3_5, u3_7, u3_8, u3_9, u11_1, u11_2, u11_3, u11_4, u11_5, u11_7, u11_8, u11_9, u12_1, u12_2, u12_3, u12_4, u12_5, u12_7, u12_8, u12_9]; rw [c2]; omega) | (simp only [u1_2, u1_3, u1_4, u1_5, u1_7, u1_8, u1_9, u2_1, u2_3, u2_4, u2_5, u2_7, u2_8, u2_9, u3_1, u3_2, u3_4, u3_5, u3_7, u3_8, u3_9, u11_1, u11_2, u11_3, u11_4, u11_5, u11_7, u11_8, u11_9, u12_1, u12_2, u12_3, u12_4, u12_5, u12_7, u12_8, u12_9]; rw [c3]; omega))) ?_
      refine J.putI hG ciX1 rfl 0 0 rfl (Nat.le_of_ble_eq_true rfl) rfl fl_X5_103 rfl rfl dX5_readsScale_72 ?_
      refine J.vret hG dX5_readsScale_75 ?_
      rw [hX]; dsimp only
      refine ⟨rfl, Or.inr ⟨by unfold scaleS; rw [numS_ok a1, ← e1]; (try dsimp only); rw [numS_no a2]; simp only [u1_2, u1_3, u1_4, u1_5, u1_7, u1_8, u1_9, u2_1, u2_3, u2_4, u2_5, u2_7, u2_8, u2_9, u3_1, u3_2, u3_4, u3_5, u3_7, u3_8, u3_9, u11_1, u11_2, u11_3, u11_4, u11_5, u11_7, u11_8, u11_9, u12_1, u12_2, u12_3, u12_4, u12_5, u12_7, u12_8, u12_9]; rw [hf]; (try simp only [u1_2, u1_3, u1_4, u1_5, u1_7, u1_8, u1_9, u2_1, u2_3, u2_4, u2_5, u2_7, u2_8, u2_9, u3_1, u3_2, u3_4, u3_5, u3_7, u3_8, u3_9, u11_1, u11_2, u11_3, u11_4, u11_5, u11_7, u11_8, u11_9, u12_1, u12_2, u12_3, u12_4, u12_5, u12_7, u12_8, u12_9]), ?_⟩⟩
      first | exact Bad_w (Bad_w (Bad_w (Bad_w hb _ _ _ (by omega)) _ _ _ (by omega)) _ _ _ (by omega)) _ _ _ (by omega) | exact Bad_w (Bad_w (Bad_w hb _ _ _ (by omega)) _ _ _ (by omega)) _ _ _ (by omega) | exact Bad_w (Bad_w hb _ _ _ (by omega)) _ _ _ (by omega)
  · obtain ⟨hb, hf, c1, c1r⟩ := Go_bad k0 e1
    refine J.iast hG rfl (by first | omega | (simp only [u1_2, u1_3, u1_4, u1_5, u1_7, u1_8, u1_9, u2_1, u2_3, u2_4, u2_5, u2_7, u2_8, u2_9, u3_1, u3_2, u3_4, u3_5, u3_7, u3_8, u3_9, u11_1, u11_2, u11_3, u11_4, u11_5, u11_7, u11_8, u11_9, u12_1, u12_2, u12_3, u12_4, u12_5, u12_7, u12_8, u12_9]; omega) | (simp only [u1_2, u1_3, u1_4, u1_5, u1_7, u1_8, u1_9, u2_1, u2_3, u2_4, u2_5, u2_7, u2_8, u2_9, u3_1, u3_2, u3_4, u3_5, u3_7, u3_8, u3_9, u11_1, u11_2, u11_3, u11_4, u11_5, u11_7, u11_8, u11_9, u12_1, u12_2, u12_3, u12_4, u12_5, u12_7, u12_8, u12_9]; rw [c1]; omega) | (simp only [u1_2, u1_3, u1_4, u1_5, u1_7, u1_8, u1_9, u2_1, u2_3, u2_4, u2_5, u2_7, u2_8, u2_9, u3_1, u3_2, u3_4, u3_5, u3_7, u3_8, u3_9, u11_1, u11_2, u11_3, u11_4, u11_5, u11_7, u11_8, u11_9, u12_1, u12_2, u12_3, u12_4, u12_5, u12_7, u12_8, u12_9]; rw [c2]; omega) | (simp only [u1_2, u1_3, u1_4, u1_5, u1_7, u1_8, u1_9, u2_1, u2_3, u2_4, u2_5, u2_7, u2_8, u2_9, u3_1, u3_2, u3_4, u3_5, u3_7, u3_8, u3_9, u11_1, u11_2, u11_3, u11_4, u11_5, u11_7, u11_8, u11_9, u12_1, u12_2, u12_3, u12_4, u12_5, u12_7, u12_8, u12_9]; rw [c3]; omega)) (by first | omega | (simp only [u1_2, u1_3, u1_4, u1_5, u1_7, u1_8, u1_9, u2_1, u2_3, u2_4, u2_5, u2_7, u2_8, u2_9, u3_1, u3_2, u3_4, u3_5, u3_7, u3_8, u3_9, u11_1, u11_2, u11_3, u11_4, u11_5, u11_7, u11_8, u11_9, u12_1, u12_2, u12_3, u12_4, u12_5, u12_7, u12_8, u12_9]; omega) | (simp only [u1_2, u1_3, u1_4, u1_5, u1_7, u1_8, u1_9, u2_1, u2_3, u2_4, u2_5, u2_7, u2_8, u2_9, u3_1, u3_2, u3_4, u3_5, u3_7, u3_8, u3_9, u11_1, u11_2, u11_3, u11_4, u11_5, u11_7, u11_8, u11_9, u12_1, u12_2, u12_3, u12_4, u12_5, u12_7, u12_8, u12_9]; rw [c1]; omega) | (simp only [u1_2, u1_3, u1_4, u1_5, u1_7, u1_8, u1_9, u2_1, u2_3, u2_4, u2_5, u2_7, u2_8, u2_9, u3_1, u3_2, u3_4, u3_5, u3_7, u3_8, u3_9, u11_1, u11_2, u11_3, u11_4, u11_5, u11_7, u11_8, u11_9, u12_1, u12_2, u12_3, u12_4, u12_5, u12_7, u12_8, u12_9]; rw [c2]; omega) | (simp only [u1_2, u1_3, u1_4, u1_5, u1_7, u1_8, u1_9, u2_1, u2_3, u2_4, u2_5, u2_7, u2_8, u2_9, u3_1, u3_2, u3_4, u3_5, u3_7, u3_8, u3_9, u11_1, u11_2, u11_3, u11_4, u11_5, u11_7, u11_8, u11_9, u12_1, u12_2, u12_3, u12_4, u12_5, u12_7, u12_8, u12_9]; rw [c3]; omega)) dX5_readsScale_22 ?_
    refine J.aload_n hG dX5_readsScale_23 rfl rfl ?_
    refine J.getR hG ciX5 rfl 1 1 rfl (Nat.le_of_ble_eq_true rfl) rfl fl_X5_18 dX5_readsScale_24 ?_
    refine J.getR hG ciX1 rfl 4 4 rfl (Nat.le_of_ble_eq_true rfl) rfl fl_X5_109 dX5_readsScale_27 ?_
    refine J.iload_n hG dX5_readsScale_30 rfl rfl ?_
    refine J.aload_n hG dX5_readsScale_31 rfl rfl ?_
    refine J.iconst hG dX5_readsScale_32 (by decide) ?_
    refine J.bipush hG dX5_readsScale_33 (by decide) (by decide) ?_
    refine J.callV hG (X5_takesNumber_b _ (by simp only [u1_2, u1_3, u1_4, u1_5, u1_7, u1_8, u1_9, u2_1, u2_3, u2_4, u2_5, u2_7, u2_8, u2_9, u3_1, u3_2, u3_4, u3_5, u3_7, u3_8, u3_9, u11_1, u11_2, u11_3, u11_4, u11_5, u11_7, u11_8, u11_9, u12_1, u12_2, u12_3, u12_4, u12_5, u12_7, u12_8, u12_9]; have := hb.2.2.2.2.1; omega) (by simp only [u1_2, u1_3, u1_4, u1_5, u1_7, u1_8, u1_9, u2_1, u2_3, u2_4, u2_5, u2_7, u2_8, u2_9, u3_1, u3_2, u3_4, u3_5, u3_7, u3_8, u3_9, u11_1, u11_2, u11_3, u11_4, u11_5, u11_7, u11_8, u11_9, u12_1, u12_2, u12_3, u12_4, u12_5, u12_7, u12_8, u12_9]; exact hb.2.2.1) _ _) ok_X5_takesNumber ml_X5_84 rfl rfl rfl rfl (Nat.le_of_ble_eq_true rfl) ⟨Nat.le_of_ble_eq_true rfl, Nat.le_of_ble_eq_true rfl⟩ dX5_readsScale_35 rfl (fun r1 νb1 hp1 => ?_)
    obtain ⟨rfl, rfl⟩ := hp1
    refine J.iast hG rfl (by first | omega | (simp only [u1_2, u1_3, u1_4, u1_5, u1_7, u1_8, u1_9, u2_1, u2_3, u2_4, u2_5, u2_7, u2_8, u2_9, u3_1, u3_2, u3_4, u3_5, u3_7, u3_8, u3_9, u11_1, u11_2, u11_3, u11_4, u11_5, u11_7, u11_8, u11_9, u12_1, u12_2, u12_3, u12_4, u12_5, u12_7, u12_8, u12_9]; omega) | (simp only [u1_2, u1_3, u1_4, u1_5, u1_7, u1_8, u1_9, u2_1, u2_3, u2_4, u2_5, u2_7, u2_8, u2_9, u3_1, u3_2, u3_4, u3_5, u3_7, u3_8, u3_9, u11_1, u11_2, u11_3, u11_4, u11_5, u11_7, u11_8, u11_9, u12_1, u12_2, u12_3, u12_4, u12_5, u12_7, u12_8, u12_9]; rw [c1]; omega) | (simp only [u1_2, u1_3, u1_4, u1_5, u1_7, u1_8, u1_9, u2_1, u2_3, u2_4, u2_5, u2_7, u2_8, u2_9, u3_1, u3_2, u3_4, u3_5, u3_7, u3_8, u3_9, u11_1, u11_2, u11_3, u11_4, u11_5, u11_7, u11_8, u11_9, u12_1, u12_2, u12_3, u12_4, u12_5, u12_7, u12_8, u12_9]; rw [c2]; omega) | (simp only [u1_2, u1_3, u1_4, u1_5, u1_7, u1_8, u1_9, u2_1, u2_3, u2_4, u2_5, u2_7, u2_8, u2_9, u3_1, u3_2, u3_4, u3_5, u3_7, u3_8, u3_9, u11_1, u11_2, u11_3, u11_4, u11_5, u11_7, u11_8, u11_9, u12_1, u12_2, u12_3, u12_4, u12_5, u12_7, u12_8, u12_9]; rw [c3]; omega)) (by first | omega | (simp only [u1_2, u1_3, u1_4, u1_5, u1_7, u1_8, u1_9, u2_1, u2_3, u2_4, u2_5, u2_7, u2_8, u2_9, u3_1, u3_2, u3_4, u3_5, u3_7, u3_8, u3_9, u11_1, u11_2, u11_3, u11_4, u11_5, u11_7, u11_8, u11_9, u12_1, u12_2, u12_3, u12_4, u12_5, u12_7, u12_8, u12_9]; omega) | (simp only [u1_2, u1_3, u1_4, u1_5, u1_7, u1_8, u1_9, u2_1, u2_3, u2_4, u2_5, u2_7, u2_8, u2_9, u3_1, u3_2, u3_4, u3_5, u3_7, u3_8, u3_9, u11_1, u11_2, u11_3, u11_4, u11_5, u11_7, u11_8, u11_9, u12_1, u12_2, u12_3, u12_4, u12_5, u12_7, u12_8, u12_9]; rw [c1]; omega) | (simp only [u1_2, u1_3, u1_4, u1_5, u1_7, u1_8, u1_9, u2_1, u2_3, u2_4, u2_5, u2_7, u2_8, u2_9, u3_1, u3_2, u3_4, u3_5, u3_7, u3_8, u3_9, u11_1, u11_2, u11_3, u11_4, u11_5, u11_7, u11_8, u11_9, u12_1, u12_2, u12_3, u12_4, u12_5, u12_7, u12_8, u12_9]; rw [c2]; omega) | (simp only [u1_2, u1_3, u1_4, u1_5, u1_7, u1_8, u1_9, u2_1, u2_3, u2_4, u2_5, u2_7, u2_8, u2_9, u3_1, u3_2, u3_4, u3_5, u3_7, u3_8, u3_9, u11_1, u11_2, u11_3, u11_4, u11_5, u11_7, u11_8, u11_9, u12_1, u12_2, u12_3, u12_4, u12_5, u12_7, u12_8, u12_9]; rw [c3]; omega)) dX5_readsScale_38 ?_
    refine J.aload_n hG dX5_readsScale_39 rfl rfl ?_
    refine J.getR hG ciX5 rfl 2 2 rfl (Nat.le_of_ble_eq_true rfl) rfl fl_X5_25 dX5_readsScale_40 ?_
    refine J.getR hG ciX2 rfl 4 4 rfl (Nat.le_of_ble_eq_true rfl) rfl fl_X5_112 dX5_readsScale_43 ?_
    refine J.iload_n hG dX5_readsScale_46 rfl rfl ?_
    refine J.aload_n hG dX5_readsScale_47 rfl rfl ?_
    refine J.iconst hG dX5_readsScale_48 (by decide) ?_
    refine J.aload_n hG dX5_readsScale_49 rfl rfl ?_
    refine J.getR hG ciX5 rfl 1 1 rfl (Nat.le_of_ble_eq_true rfl) rfl fl_X5_18 dX5_readsScale_50 ?_
    refine J.getR hG ciX1 rfl 4 4 rfl (Nat.le_of_ble_eq_true rfl) rfl fl_X5_109 dX5_readsScale_53 ?_
    refine J.iload_n hG dX5_readsScale_56 rfl rfl ?_
    refine J.iald hG rfl (by first | omega | (simp only [u1_2, u1_3, u1_4, u1_5, u1_7, u1_8, u1_9, u2_1, u2_3, u2_4, u2_5, u2_7, u2_8, u2_9, u3_1, u3_2, u3_4, u3_5, u3_7, u3_8, u3_9, u11_1, u11_2, u11_3, u11_4, u11_5, u11_7, u11_8, u11_9, u12_1, u12_2, u12_3, u12_4, u12_5, u12_7, u12_8, u12_9]; omega) | (simp only [u1_2, u1_3, u1_4, u1_5, u1_7, u1_8, u1_9, u2_1, u2_3, u2_4, u2_5, u2_7, u2_8, u2_9, u3_1, u3_2, u3_4, u3_5, u3_7, u3_8, u3_9, u11_1, u11_2, u11_3, u11_4, u11_5, u11_7, u11_8, u11_9, u12_1, u12_2, u12_3, u12_4, u12_5, u12_7, u12_8, u12_9]; rw [c1]; omega) | (simp only [u1_2, u1_3, u1_4, u1_5, u1_7, u1_8, u1_9, u2_1, u2_3, u2_4, u2_5, u2_7, u2_8, u2_9, u3_1, u3_2, u3_4, u3_5, u3_7, u3_8, u3_9, u11_1, u11_2, u11_3, u11_4, u11_5, u11_7, u11_8, u11_9, u12_1, u12_2, u12_3, u12_4, u12_5, u12_7, u12_8, u12_9]; rw [c2]; omega) | (simp only [u1_2, u1_3, u1_4, u1_5, u1_7, u1_8, u1_9, u2_1, u2_3, u2_4, u2_5, u2_7, u2_8, u2_9, u3_1, u3_2, u3_4, u3_5, u3_7, u3_8, u3_9, u11_1, u11_2, u11_3, u11_4, u11_5, u11_7, u11_8, u11_9, u12_1, u12_2, u12_3, u12_4, u12_5, u12_7, u12_8, u12_9]; rw [c3]; omega)) (by first | omega | (simp only [u1_2, u1_3, u1_4, u1_5, u1_7, u1_8, u1_9, u2_1, u2_3, u2_4, u2_5, u2_7, u2_8, u2_9, u3_1, u3_2, u3_4, u3_5, u3_7, u3_8, u3_9, u11_1, u11_2, u11_3, u11_4, u11_5, u11_7, u11_8, u11_9, u12_1, u12_2, u12_3, u12_4, u12_5, u12_7, u12_8, u12_9]; omega) | (simp only [u1_2, u1_3, u1_4, u1_5, u1_7, u1_8, u1_9, u2_1, u2_3, u2_4, u2_5, u2_7, u2_8, u2_9, u3_1, u3_2, u3_4, u3_5, u3_7, u3_8, u3_9, u11_1, u11_2, u11_3, u11_4, u11_5, u11_7, u11_8, u11_9, u12_1, u12_2, u12_3, u12_4, u12_5, u12_7, u12_8, u12_9]; rw [c1]; omega) | (simp only [u1_2, u1_3, u1_4, u1_5, u1_7, u1_8, u1_9, u2_1, u2_3, u2_4, u2_5, u2_7, u2_8, u2_9, u3_1, u3_2, u3_4, u3_5, u3_7, u3_8, u3_9, u11_1, u11_2, u11_3, u11_4, u11_5, u11_7, u11_8, u11_9, u12_1, u12_2, u12_3, u12_4, u12_5, u12_7, u12_8, u12_9]; rw [c2]; omega) | (simp only [u1_2, u1_3, u1_4, u1_5, u1_7, u1_8, u1_9, u2_1, u2_3, u2_4, u2_5, u2_7, u2_8, u2_9, u3_1, u3_2, u3_4, u3_5, u3_7, u3_8, u3_9, u11_1, u11_2, u11_3, u11_4, u11_5, u11_7, u11_8, u11_9, u12_1, u12_2, u12_3, u12_4, u12_5, u12_7, u12_8, u12_9]; rw [c3]; omega)) dX5_readsScale_57 ?_
    refine J.callV hG (X5_takesNumber_b _ (by simp only [u1_2, u1_3, u1_4, u1_5, u1_7, u1_8, u1_9, u2_1, u2_3, u2_4, u2_5, u2_7, u2_8, u2_9, u3_1, u3_2, u3_4, u3_5, u3_7, u3_8, u3_9, u11_1, u11_2, u11_3, u11_4, u11_5, u11_7, u11_8, u11_9, u12_1, u12_2, u12_3, u12_4, u12_5, u12_7, u12_8, u12_9]; have := hb.2.2.2.2.1; omega) (by simp only [u1_2, u1_3, u1_4, u1_5, u1_7, u1_8, u1_9, u2_1, u2_3, u2_4, u2_5, u2_7, u2_8, u2_9, u3_1, u3_2, u3_4, u3_5, u3_7, u3_8, u3_9, u11_1, u11_2, u11_3, u11_4, u11_5, u11_7, u11_8, u11_9, u12_1, u12_2, u12_3, u12_4, u12_5, u12_7, u12_8, u12_9]; exact hb.2.2.1) _ _) ok_X5_takesNumber ml_X5_84 rfl rfl rfl rfl (Nat.le_of_ble_eq_true rfl) ⟨Nat.le_of_ble_eq_true rfl, Nat.le_of_ble_eq_true rfl⟩ dX5_readsScale_58 rfl (fun r1 νb1 hp1 => ?_)
    obtain ⟨rfl, rfl⟩ := hp1
    refine J.iast hG rfl (by first | omega | (simp only [u1_2, u1_3, u1_4, u1_5, u1_7, u1_8, u1_9, u2_1, u2_3, u2_4, u2_5, u2_7, u2_8, u2_9, u3_1, u3_2, u3_4, u3_5, u3_7, u3_8, u3_9, u11_1, u11_2, u11_3, u11_4, u11_5, u11_7, u11_8, u11_9, u12_1, u12_2, u12_3, u12_4, u12_5, u12_7, u12_8, u12_9]; omega) | (simp only [u1_2, u1_3, u1_4, u1_5, u1_7, u1_8, u1_9, u2_1, u2_3, u2_4, u2_5, u2_7, u2_8, u2_9, u3_1, u3_2, u3_4, u3_5, u3_7, u3_8, u3_9, u11_1, u11_2, u11_3, u11_4, u11_5, u11_7, u11_8, u11_9, u12_1, u12_2, u12_3, u12_4, u12_5, u12_7, u12_8, u12_9]; rw [c1]; omega) | (simp only [u1_2, u1_3, u1_4, u1_5, u1_7, u1_8, u1_9, u2_1, u2_3, u2_4, u2_5, u2_7, u2_8, u2_9, u3_1, u3_2, u3_4, u3_5, u3_7, u3_8, u3_9, u11_1, u11_2, u11_3, u11_4, u11_5, u11_7, u11_8, u11_9, u12_1, u12_2, u12_3, u12_4, u12_5, u12_7, u12_8, u12_9]; rw [c2]; omega) | (simp only [u1_2, u1_3, u1_4, u1_5, u1_7, u1_8, u1_9, u2_1, u2_3, u2_4, u2_5, u2_7, u2_8, u2_9, u3_1, u3_2, u3_4, u3_5, u3_7, u3_8, u3_9, u11_1, u11_2, u11_3, u11_4, u11_5, u11_7, u11_8, u11_9, u12_1, u12_2, u12_3, u12_4, u12_5, u12_7, u12_8, u12_9]; rw [c3]; omega)) (by first | omega | (simp only [u1_2, u1_3, u1_4, u1_5, u1_7, u1_8, u1_9, u2_1, u2_3, u2_4, u2_5, u2_7, u2_8, u2_9, u3_1, u3_2, u3_4, u3_5, u3_7, u3_8, u3_9, u11_1, u11_2, u11_3, u11_4, u11_5, u11_7, u11_8, u11_9, u12_1, u12_2, u12_3, u12_4, u12_5, u12_7, u12_8, u12_9]; omega) | (simp only [u1_2, u1_3, u1_4, u1_5, u1_7, u1_8, u1_9, u2_1, u2_3, u2_4, u2_5, u2_7, u2_8, u2_9, u3_1, u3_2, u3_4, u3_5, u3_7, u3_8, u3_9, u11_1, u11_2, u11_3, u11_4, u11_5, u11_7, u11_8, u11_9, u12_1, u12_2, u12_3, u12_4, u12_5, u12_7, u12_8, u12_9]; rw [c1]; omega) | (simp only [u1_2, u1_3, u1_4, u1_5, u1_7, u1_8, u1_9, u2_1, u2_3, u2_4, u2_5, u2_7, u2_8, u2_9, u3_1, u3_2, u3_4, u3_5, u3_7, u3_8, u3_9, u11_1, u11_2, u11_3, u11_4, u11_5, u11_7, u11_8, u11_9, u12_1, u12_2, u12_3, u12_4, u12_5, u12_7, u12_8, u12_9]; rw [c2]; omega) | (simp only [u1_2, u1_3, u1_4, u1_5, u1_7, u1_8, u1_9, u2_1, u2_3, u2_4, u2_5, u2_7, u2_8, u2_9, u3_1, u3_2, u3_4, u3_5, u3_7, u3_8, u3_9, u11_1, u11_2, u11_3, u11_4, u11_5, u11_7, u11_8, u11_9, u12_1, u12_2, u12_3, u12_4, u12_5, u12_7, u12_8, u12_9]; rw [c3]; omega)) dX5_readsScale_61 ?_
    refine J.aload_n hG dX5_readsScale_62 rfl rfl ?_
    refine J.getR hG ciX5 rfl 1 1 rfl (Nat.le_of_ble_eq_true rfl) rfl fl_X5_18 dX5_readsScale_63 ?_
    refine J.dup hG dX5_readsScale_66 (fun _ => rfl) ?_
    refine J.getI hG ciX1 rfl 0 0 rfl (Nat.le_of_ble_eq_true rfl) rfl fl_X5_103 dX5_readsScale_67 ?_
    refine J.iconst hG dX5_readsScale_70 (by decide) ?_
    refine J.iadd hG dX5_readsScale_71 (fun _ _ => (by first | omega | (simp only [u1_2, u1_3, u1_4, u1_5, u1_7, u1_8, u1_9, u2_1, u2_3, u2_4, u2_5, u2_7, u2_8, u2_9, u3_1, u3_2, u3_4, u3_5, u3_7, u3_8, u3_9, u11_1, u11_2, u11_3, u11_4, u11_5, u11_7, u11_8, u11_9, u12_1, u12_2, u12_3, u12_4, u12_5, u12_7, u12_8, u12_9]; omega) | (simp only [u1_2, u1_3, u1_4, u1_5, u1_7, u1_8, u1_9, u2_1, u2_3, u2_4, u2_5, u2_7, u2_8, u2_9, u3_1, u3_2, u3_4, u3_5, u3_7, u3_8, u3_9, u11_1, u11_2, u11_3, u11_4, u11_5, u11_7, u11_8, u11_9, u12_1, u12_2, u12_3, u12_4, u12_5, u12_7, u12_8, u12_9]; rw [c1]; omega) | (simp only [u1_2, u1_3, u1_4, u1_5, u1_7, u1_8, u1_9, u2_1, u2_3, u2_4, u2_5, u2_7, u2_8, u2_9, u3_1, u3_2, u3_4, u3_5, u3_7, u3_8, u3_9, u11_1, u11_2, u11_3, u11_4, u11_5, u11_7, u11_8, u11_9, u12_1, u12_2, u12_3, u12_4, u12_5, u12_7, u12_8, u12_9]; rw [c2]; omega) | (simp only [u1_2, u1_3, u1_4, u1_5, u1_7, u1_8, u1_9, u2_1, u2_3, u2_4, u2_5, u2_7, u2_8, u2_9, u3_1, u3_2, u3_4, u3_5, u3_7, u3_8, u3_9, u11_1, u11_2, u11_3, u11_4, u11_5, u11_7, u11_8, u11_9, u12_1, u12_2, u12_3, u12_4, u12_5, u12_7, u12_8, u12_9]; rw [c3]; omega))) ?_
    refine J.putI hG ciX1 rfl 0 0 rfl (Nat.le_of_ble_eq_true rfl) rfl fl_X5_103 rfl rfl dX5_readsScale_72 ?_
    refine J.vret hG dX5_readsScale_75 ?_
    rw [hX]; dsimp only
    refine ⟨rfl, Or.inr ⟨by unfold scaleS; rw [numS_no a1]; simp only [u1_2, u1_3, u1_4, u1_5, u1_7, u1_8, u1_9, u2_1, u2_3, u2_4, u2_5, u2_7, u2_8, u2_9, u3_1, u3_2, u3_4, u3_5, u3_7, u3_8, u3_9, u11_1, u11_2, u11_3, u11_4, u11_5, u11_7, u11_8, u11_9, u12_1, u12_2, u12_3, u12_4, u12_5, u12_7, u12_8, u12_9]; rw [hf]; (try simp only [u1_2, u1_3, u1_4, u1_5, u1_7, u1_8, u1_9, u2_1, u2_3, u2_4, u2_5, u2_7, u2_8, u2_9, u3_1, u3_2, u3_4, u3_5, u3_7, u3_8, u3_9, u11_1, u11_2, u11_3, u11_4, u11_5, u11_7, u11_8, u11_9, u12_1, u12_2, u12_3, u12_4, u12_5, u12_7, u12_8, u12_9]), ?_⟩⟩
    first | exact Bad_w (Bad_w (Bad_w (Bad_w hb _ _ _ (by omega)) _ _ _ (by omega)) _ _ _ (by omega)) _ _ _ (by omega) | exact Bad_w (Bad_w (Bad_w hb _ _ _ (by omega)) _ _ _ (by omega)) _ _ _ (by omega) | exact Bad_w (Bad_w hb _ _ _ (by omega)) _ _ _ (by omega)


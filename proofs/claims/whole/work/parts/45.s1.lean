/-! both memories beside each other: a the class's, b the reference's -/
def Mo (a : Mem) (c : Nat) (g : Int → Int) : Prop := (g 24 = a c 0 ∧ g 25 = a c 1) ∧ ((0 ≤ a c 0 ∧ a c 0 ≤ 99) ∧ 0 ≤ a c 1 ∧ a c 1 ≤ 16 * a c 0) ∧ (∀ s : Int, 0 ≤ s → s < a 13 0 → g (2 * s) = a (c + 2) s ∧ g (2 * s + 1) = a (c + 3) s) ∧ (∀ l s : Int, 0 ≤ l → l < a 13 1 → 0 ≤ s → s < a 13 0 → g (8 + 4 * l + s) = a (c + 1) (l * 4 + s) ∧ 0 ≤ a (c + 1) (l * 4 + s) ∧ a (c + 1) (l * 4 + s) ≤ a 14 s)
def S1 (a b : Mem) : Prop := (b 0 3 = a 1 0 ∧ b 1 = a 10) ∧ XTx a ∧ a 6 0 = 0 ∧ a 6 1 = 0
def S2 (a b : Mem) : Prop := (b 0 14 = a 13 0 ∧ b 0 15 = a 13 1 ∧ b 0 16 = a 13 2 ∧ b 0 17 = a 13 3) ∧ (∀ s : Int, 0 ≤ s → s < a 13 0 → b 2 s = a 14 s) ∧ (∀ l s : Int, 0 ≤ l → l < a 13 1 → 0 ≤ s → s < a 13 0 → b 5 (4 * l + s) = a 15 (l * 4 + s) + 3) ∧ (∀ p : Int, 0 ≤ p → p < a 13 2 → b 6 p = a 16 p)
def S3 (a b : Mem) : Prop := XB a ∧ XPl a ∧ Mo a 17 (b 7)
def rgC (a : Mem) (i : Int) : Nat := 23 + 4 * ((a 21 1 + 10 - a 21 0 + i) % 10).toNat
def S4 (a b : Mem) : Prop := XP a ∧ b 0 27 = a 21 0 ∧ ∀ i : Int, 0 ≤ i → i < a 21 0 → Mo a (rgC a i) (fun j => b 11 (26 * i + j))
def S5 (a b : Mem) : Prop := ∀ i : Int, (i = 0 ∨ i = 1) → b 10 i = a 64 i ∧ (¬ a 64 i = 0 → Mo a (77 + 4 * i.toNat) (fun j => b 9 (26 * i + j)))
def S6 (a b : Mem) : Prop := XPn a ∧ b 0 30 = a 65 0 ∧ ∀ i : Int, 0 ≤ i → i < a 65 0 → b 12 i = a 66 i ∧ b 13 i = a 67 i
def S7 (a b : Mem) : Prop := XBk a ∧ b 0 34 = a 71 0 ∧ ∀ i : Int, 0 ≤ i → i < a 71 0 → b 14 i = a 72 i ∧ b 15 i = a 73 i ∧ b 16 i = a 74 i
def S8 (a b : Mem) : Prop := b 1000 1 = a 1000 10
def Sim (a b : Mem) : Prop := S1 a b ∧ S2 a b ∧ S3 a b ∧ S4 a b ∧ S5 a b ∧ S6 a b ∧ S7 a b ∧ S8 a b
section BR
variable {a b : Mem}
theorem br_MB (h2 : S2 a b) (h3 : S3 a b) : MB b := by
  obtain ⟨⟨e0, e1, e2, e3⟩, r, st, pl⟩ := h2
  obtain ⟨⟨x1, x2, x3, x4, x5, x6⟩, hpl, ⟨m0, m1, m2, m3⟩⟩ := h3
  unfold MB
  rw [e0, e1, e2, e3]
  refine ⟨x1, x2, x3, x4, fun s p q => by rw [r s p q]; exact x5 s p q, fun l s p q u v => ?_⟩
  have g1 := x6 l s p q u v
  have g2 := m3 l s p q u v
  rw [st l s p q u v, r s u v, g2.1]
  omega
theorem br_Pl (h2 : S2 a b) (h3 : S3 a b) : mPl b := by
  intro p h0 h1
  rw [h2.1.2.2.1] at h1
  rw [h2.2.2.2 p h0 h1]
  exact h3.2.1 p h0 h1
theorem br_En (h2 : S2 a b) (h3 : S3 a b) {s : Int} (hs : 0 ≤ s ∧ s < a 13 0) : mEn b 7 s = xEn a s := by
  funext v
  have g := h3.2.2.2.2.1 s hs.1 hs.2
  unfold mEn xEn
  rw [g.1, g.2, h2.2.1 s hs.1 hs.2]
theorem br_V (h2 : S2 a b) (h3 : S3 a b) (n : Int) {l s : Int} (hl : 0 ≤ l ∧ l < a 13 1) (hs : 0 ≤ s ∧ s < a 13 0) : mV b 7 n l s = xV a n l s := by
  have g := h3.2.2.2.2.2 l s hl.1 hl.2 hs.1 hs.2
  unfold mV xV
  rw [g.1, h2.2.1 s hs.1 hs.2, h2.2.2.1 l s hl.1 hl.2 hs.1 hs.2, show a 15 (l * 4 + s) + 3 - 3 = a 15 (l * 4 + s) by omega]
theorem br_Ey (h2 : S2 a b) (h3 : S3 a b) (n : Int) {l s : Int} (hl : 0 ≤ l ∧ l < a 13 1) (hs : 0 ≤ s ∧ s < a 13 0) : mEy b n l s = xE a n l s := by
  unfold mEy xE
  rw [br_V h2 h3 n hl hs, br_En h2 h3 hs]
  rfl
theorem xV_0 (hB : XB a) {l s : Int} (hl : 0 ≤ l ∧ l < a 13 1) (hs : 0 ≤ s ∧ s < a 13 0) : xV a 0 l s = a 18 (l * 4 + s) := by
  have g := hB.2.2.2.2.2 l s hl.1 hl.2 hs.1 hs.2
  unfold xV cl
  rw [Int.zero_mul, Int.add_zero, if_neg (by omega), if_neg (by omega)]
theorem br_E (h2 : S2 a b) (h3 : S3 a b) {l s : Int} (hl : 0 ≤ l ∧ l < a 13 1) (hs : 0 ≤ s ∧ s < a 13 0) : mE b 7 l s = xE a 0 l s := by
  have g := h3.2.2.2.2.2 l s hl.1 hl.2 hs.1 hs.2
  unfold mE xE
  rw [br_En h2 h3 hs, g.1, xV_0 h3.1 hl hs]
  rfl
theorem br_U (h2 : S2 a b) (h3 : S3 a b) {l : Int} (hl : 0 ≤ l ∧ l < a 13 1) : mU b 7 l = xU a 0 l := by
  unfold mU xU
  rw [h2.1.1]
  exact fs3_congr _ _ (fun i p q => br_E h2 h3 hl ⟨p, by omega⟩)
theorem br_Uy (h2 : S2 a b) (h3 : S3 a b) (n : Int) {l : Int} (hl : 0 ≤ l ∧ l < a 13 1) : mUy b n l = xU a n l := by
  unfold mUy xU
  rw [h2.1.1]
  exact fs3_congr _ _ (fun i p q => br_Ey h2 h3 n hl ⟨p, by omega⟩)
theorem br_Bits (h2 : S2 a b) (h3 : S3 a b) : mBits b 7 = xBits a := by
  unfold mBits xBits
  rw [h2.1.2.1]
  exact smf_congr _ _ (fun i p q => by rw [br_U h2 h3 ⟨p, by omega⟩])
theorem br_C (h2 : S2 a b) (h3 : S3 a b) (e : Int) {l : Int} (hl : 0 ≤ l ∧ l < a 13 1) : mC b e l = xC a e l := by
  unfold mC xC
  rw [h2.1.1]
  refine smf_congr _ _ (fun i p q => ?_)
  have g := h3.2.2.2.2.2 l i hl.1 hl.2 p (by omega)
  unfold mE
  rw [br_En h2 h3 ⟨p, by omega⟩, g.1]
  rfl
theorem br_Dr (h2 : S2 a b) (h3 : S3 a b) : mDr b = xDr a := by
  unfold mDr xDr
  rw [h2.1.2.1]
  exact smf_congr _ _ (fun i p q => br_C h2 h3 2 ⟨p, by omega⟩)
theorem br_S (h2 : S2 a b) (h3 : S3 a b) {l : Int} (hl : 0 ≤ l ∧ l < a 13 1) : mS b l = xS a l := by
  unfold mS xS
  rw [h2.1.1]
  exact smf_congr _ _ (fun i p q => (h3.2.2.2.2.2 l i hl.1 hl.2 p (by omega)).1)
theorem smf_add (f g : Int → Int) : ∀ (k : Nat) (s : Int), smf (fun i => f i + g i) s k = smf f s k + smf g s k
  | 0, _ => rfl
  | k + 1, s => by
    unfold smf
    rw [smf_add f g k (s + 1)]
    omega
theorem smf_zero : ∀ (k : Nat) (s : Int), smf (fun _ => 0) s k = 0
  | 0, _ => rfl
  | k + 1, s => by
    unfold smf
    rw [smf_zero k (s + 1)]
    rfl
theorem smf_swap (f : Int → Int → Int) (k2 : Nat) (s2 : Int) : ∀ (k1 : Nat) (s1 : Int), smf (fun i => smf (fun j => f i j) s2 k2) s1 k1 = smf (fun j => smf (fun i => f i j) s1 k1) s2 k2
  | 0, s1 => by
    show 0 = _
    exact (smf_zero k2 s2).symm
  | k1 + 1, s1 => by
    rw [smf, smf_swap f k2 s2 k1 (s1 + 1), ← smf_add]
    rfl
theorem br_EC (h2 : S2 a b) (h3 : S3 a b) {s : Int} (hs : 0 ≤ s ∧ s < a 13 0) : mEC b s = xEC a s := by
  funext t
  unfold mEC xEC
  rw [smf_swap, h2.1.2.1]
  refine smf_congr _ _ (fun l p q => smf_congr _ _ (fun n _ _ => ?_))
  rw [br_V h2 h3 n ⟨p, by omega⟩ hs, br_V h2 h3 (n + 1) ⟨p, by omega⟩ hs]
theorem br_BJ (h2 : S2 a b) (h3 : S3 a b) {s : Int} (hs : 0 ≤ s ∧ s < a 13 0) : mBJ b s = xBJ a s := by
  unfold mBJ xBJ
  rw [br_EC h2 h3 hs, h2.2.1 s hs.1 hs.2]
theorem pc4_two (x : Int) (h : x = 0 ∨ x = 1) (y : Int) (hy : 0 ≤ y) (hy2 : y < 8) : pc4 (y * 2 + x) = pc4 y + x := by
  unfold pc4
  omega
theorem pc4_bits (P : Int → Prop) [DecidablePred P] (k : Nat) (hk : k ≤ 4) : pc4 (smf (fun l => if P l then 0 else p2 l) 0 k) = smf (fun l => if P l then 0 else 1) 0 k := by
  rcases (show k = 0 ∨ k = 1 ∨ k = 2 ∨ k = 3 ∨ k = 4 by omega) with rfl | rfl | rfl | rfl | rfl
  · rfl
  all_goals
    simp only [smf, Int.zero_add, show (1 : Int) + 1 = 2 from rfl, show (2 : Int) + 1 = 3 from rfl, show p2 0 = 1 from rfl, show p2 1 = 2 from rfl, show p2 2 = 4 from rfl, show p2 3 = 8 from rfl]
    (repeat' split) <;> rfl
theorem br_Y (h2 : S2 a b) (h3 : S3 a b) (En : Int → Int → Int) (E' : Int → Int → Int → Int) (hE : ∀ n l c : Int, 0 ≤ l → l < a 13 1 → 0 ≤ c → c < a 13 0 → En c (xV a n l c) = E' n l c) : yY b En 7 = smf (fun l => smf (fun n => if fs3 (fun c => E' n l c) (a 13 0).toNat 0 = -9 then 0 else 1) 0 21) 0 (a 13 1).toNat := by
  have hB := h3.1
  unfold yY
  rw [smf_swap]
  refine smf_congr _ _ (fun n _ _ => ?_)
  unfold yB
  rw [pc4_bits (fun l => fs3 (fun s => En s (mV b 7 n l s)) (b 0 14).toNat 0 = -9) _ (by rw [h2.1.2.1]; have := hB.2.1; omega), h2.1.2.1, h2.1.1]
  refine smf_congr _ _ (fun l p q => ?_)
  rw [fs3_congr (E := fun s => En s (mV b 7 n l s)) (E' := fun c => E' n l c) _ _ (fun c u v => by
    show En c (mV b 7 n l c) = E' n l c
    rw [br_V h2 h3 n ⟨p, by omega⟩ ⟨u, by omega⟩]
    exact hE n l c p (by omega) u (by omega))]
theorem br_freed (h2 : S2 a b) (h3 : S3 a b) {s : Int} (hs : 0 ≤ s ∧ s < a 13 0) (w t : Int) : yY b (mEn b 7) 7 - yY b (mEL b s w t) 7 = xUY a s (a 19 s) (a 20 s) - xUY a s w t := by
  have e1 : yY b (mEn b 7) 7 = xUY a s (a 19 s) (a 20 s) := by
    refine br_Y h2 h3 (mEn b 7) (fun n l c => if c = s then EB (a 19 s) (a 20 s) (a 14 s) (xV a n l c) else xE a n l c) (fun n l c p q u v => ?_)
    rw [br_En h2 h3 ⟨u, v⟩]
    show xEn a c (xV a n l c) = if c = s then _ else _
    split
    · rename_i hc
      subst hc
      rfl
    · rfl
  have e2 : yY b (mEL b s w t) 7 = xUY a s w t := by
    refine br_Y h2 h3 (mEL b s w t) (fun n l c => if c = s then EB w t (a 14 s) (xV a n l c) else xE a n l c) (fun n l c p q u v => ?_)
    unfold mEL
    split
    · rename_i hc
      subst hc
      rw [h2.2.1 c u v]
    · rename_i hc
      rw [br_En h2 h3 ⟨u, v⟩]
      rfl
  rw [e1, e2]
theorem sty_congr {E E' : Int → Int → Int} {rg rg' : Int → Int} {ns : Int} {pS pB pS' pB' : Int → Int} (hE : ∀ s, 0 ≤ s → s < ns → E s = E' s) (hr : ∀ s, 0 ≤ s → s < ns → rg s = rg' s) : ∀ (l : List Int) (g g' : Int → Int), (∀ s, 0 ≤ s → s < ns → g s = g' s) → (∀ c ∈ l, (0 ≤ pS c ∧ pS c < ns) ∧ pS c = pS' c ∧ pB c = pB' c) → sty E rg ns pS pB l g = sty E' rg' ns pS' pB' l g'
  | [], _, _, _, _ => rfl
  | c :: cs, g, g', hg, hc => by
    obtain ⟨q1, q2, q3⟩ := hc c List.mem_cons_self
    have hu : ∀ s, 0 ≤ s → s < ns → upf g (pS c) (cl (rg (pS c)) (g (pS c) + pB c)) s = upf g' (pS' c) (cl (rg' (pS' c)) (g' (pS' c) + pB' c)) s := by
      intro s p q
      unfold upf
      rw [← q2, ← q3, hr _ q1.1 q1.2, hg _ q1.1 q1.2, hg s p q]
    have hf : fs3 (fun s => E s (upf g (pS c) (cl (rg (pS c)) (g (pS c) + pB c)) s)) ns.toNat 0 = fs3 (fun s => E' s (upf g' (pS' c) (cl (rg' (pS' c)) (g' (pS' c) + pB' c)) s)) ns.toNat 0 := fs3_congr _ _ (fun s p q => by
      show E s _ = E' s _
      rw [hE s p (by omega), hu s p (by omega)])
    unfold sty
    rw [hf, sty_congr hE hr cs _ _ hu (fun c hc' => hc c (List.mem_cons_of_mem _ hc'))]
theorem br_Pn (h2 : S2 a b) (h6 : S6 a b) : MPn b := by
  obtain ⟨⟨p1, p2⟩, e, q⟩ := h6
  unfold MPn
  rw [e, h2.1.1]
  refine ⟨p1, fun i u v => ?_⟩
  rw [(q i u v).1, (q i u v).2]
  exact p2 i u v
theorem br_Sel (h2 : S2 a b) (h3 : S3 a b) (h6 : S6 a b) {l : Int} (hl : 0 ≤ l ∧ l < a 13 1) (wo : Int) (hw : wo = -9 ∨ (0 ≤ wo ∧ wo < a 65 0)) : mSel b l wo = xSel a l wo := by
  obtain ⟨⟨p1, p2⟩, e, q⟩ := h6
  unfold mSel xSel
  rw [e]
  have hck := chk_all (a 65 0).toNat wo (by omega) (by omega)
  simp only [chkP, Bool.and_eq_true, beq_iff_eq, decide_eq_true_eq, List.all_eq_true] at hck
  refine List.filter_congr (fun p hp => ?_)
  have hz := (hck.2 p hp).2
  have : mSty b l p = xSty a l p := by
    unfold mSty xSty
    rw [h2.1.1]
    refine sty_congr (fun s u v => by rw [br_En h2 h3 ⟨u, v⟩]; rfl) (fun s u v => h2.2.1 s u v) p _ _ (fun s u v => (h3.2.2.2.2.2 l s hl.1 hl.2 u v).1) (fun c hc => ?_)
    have hc2 := hz c hc
    have r := q c hc2.1 (by omega)
    rw [r.1, r.2]
    exact ⟨(p2 c hc2.1 (by omega)).1, rfl, rfl⟩
  rw [this]
theorem ff_od {R R' : Int → Int → Int} {np p n : Int} (hn : 0 ≤ n) (hR : ∀ q, 0 ≤ q → q < np → p ≠ q → R p q = R' p q) : ∀ (k : Nat) (q : Int) (f : Int → Int), 0 ≤ q → q + k = np → f p = n → ff (rq R p n) k q f = ff (rq R' p n) k q f
  | 0, _, _, _, _, _ => rfl
  | k + 1, q, f, h0, h1, hf => by
    have e : rq R p n q f = rq R' p n q f := by
      unfold rq
      by_cases hq : p = q
      · subst hq
        rw [if_neg (fun w => by omega), if_neg (fun w => by omega)]
      · rw [hR q h0 (by omega) hq]
    have e2 : rq R' p n q f p = n := rq_keep hn 1 q f hf
    rw [ff, ff, e, ff_od hn hR k (q + 1) _ (by omega) (by omega) e2]
theorem BF_od {R R' : Int → Int → Int} {np to : Int} (h0 : 0 ≤ np) (hR : ∀ p q, 0 ≤ p → p < np → 0 ≤ q → q < np → p ≠ q → R p q = R' p q) : BF R np to = BF R' np to := by
  have A : ∀ (n : Int), 0 ≤ n → ∀ (k : Nat) (p : Int) (f : Int → Int), 0 ≤ p → p + k = np → ff (rmid R np n) k p f = ff (rmid R' np n) k p f := by
    intro n hn k
    induction k with
    | zero => intro p f _ _; rfl
    | succ k ih =>
      intro p f p0 p1
      have e : rmid R np n p f = rmid R' np n p f := by
        unfold rmid
        split
        · rename_i hf
          exact ff_od hn (fun q u v w => hR p q p0 (by omega) u v w) _ 0 f (Int.le_refl _) (by omega) hf
        · rfl
      rw [ff, ff, e, ih (p + 1) _ (by omega) (by omega)]
  have B : ∀ (k : Nat) (n : Int) (f : Int → Int), 0 ≤ n → ff (rout R np) k n f = ff (rout R' np) k n f := by
    intro k
    induction k with
    | zero => intro n f _; rfl
    | succ k ih =>
      intro n f hn
      have e : rout R np n f = rout R' np n f := by
        unfold rout
        exact A n hn _ 0 f (Int.le_refl _) (by omega)
      rw [ff, ff, e, ih (n + 1) _ (by omega)]
  unfold BF
  exact B _ 0 _ (Int.le_refl _)
theorem tripA_od {R R' : Int → Int → Int} {np s t w : Int} (h0 : 0 ≤ s ∧ s < np) (hR : ∀ p q, 0 ≤ p → p < np → 0 ≤ q → q < np → p ≠ q → R p q = R' p q) : tripA R np s t w = tripA R' np s t w := by
  unfold tripA
  rw [BF_od (by omega) hR]
  split
  · rfl
  · refine fs3_congr _ _ (fun p u v => ?_)
    by_cases hp : s = p
    · subst hp
      rw [if_neg (fun w => by omega), if_neg (fun w => by omega)]
    · rw [hR s p h0.1 h0.2 u (by omega) hp]
theorem br_trip (h2 : S2 a b) (h3 : S3 a b) {s p t w : Int} (hs : 0 ≤ s ∧ s < a 13 0) (hp : 0 ≤ p ∧ p < a 13 2) : tripA (mJ b s) (b 0 16) p t w = tripA (xJ a s) (a 13 2) p t w := by
  rw [h2.1.2.2.1]
  refine tripA_od hp (fun i j i0 i1 j0 j1 hij => ?_)
  have e : mAp b i j = xAp a i j := by
    unfold mAp xAp
    rw [h2.2.2.2 i i0 i1, h2.2.2.2 j j0 j1]
  unfold mJ xJ
  rw [e, br_En h2 h3 hs, h2.2.1 s hs.1 hs.2]
  by_cases h : xAp a i j ≤ a 14 s ∧ ¬ EB (a 19 s) (a 20 s) (a 14 s) (xAp a i j) = 3
  · rw [if_pos h, if_pos ⟨hij, h⟩]
  · rw [if_neg h, if_neg (fun z => h z.2)]
theorem br_Bk (h7 : S7 a b) : MBk b := by
  obtain ⟨⟨p1, p2⟩, e, q⟩ := h7
  unfold MBk
  rw [e]
  refine ⟨p1, fun i u v => ?_⟩
  rw [(q i u v).2.1]
  exact p2 i u v
theorem br_EY (h2 : S2 a b) (h3 : S3 a b) {s : Int} (hs : 0 ≤ s ∧ s < a 13 0) : mEY b s = xEY a s := by
  funext y v d
  unfold mEY xEY
  rw [br_En h2 h3 hs, h2.2.1 s hs.1 hs.2]
  rfl
theorem br_Ag (h2 : S2 a b) (h3 : S3 a b) (h7 : S7 a b) {s : Int} (hs : 0 ≤ s ∧ s < a 13 0) : mAg b s = xAg a s := by
  obtain ⟨⟨p1, p2⟩, e, q⟩ := h7
  funext v d
  unfold mAg xAg
  rw [e, br_EY h2 h3 hs]
  refine fs3_congr _ _ (fun i u w => ?_)
  have r := q i u (by omega)
  rw [r.1, r.2.1, r.2.2]
theorem br_Fits (h2 : S2 a b) (h3 : S3 a b) (h7 : S7 a b) {s : Int} (hs : 0 ≤ s ∧ s < a 13 0) : mFits b s = xFits a s := by
  unfold mFits xFits
  rw [br_Ag h2 h3 h7 hs, h2.2.1 s hs.1 hs.2]
theorem br_Sure (h2 : S2 a b) (h3 : S3 a b) (h7 : S7 a b) {s : Int} (hs : 0 ≤ s ∧ s < a 13 0) (y : Int) : mSure b s y = xSure a s y := by
  unfold mSure xSure
  rw [br_Ag h2 h3 h7 hs, br_EY h2 h3 hs, h2.2.1 s hs.1 hs.2]
theorem fc_congr {g g' : Int → Int} : ∀ (k : Nat) (i : Int), (∀ j, i ≤ j → j < i + k → g j = g' j) → fc g k i = fc g' k i
  | 0, _, _ => rfl
  | k + 1, i, h => by
    unfold fc
    rw [h i (Int.le_refl _) (by omega), fc_congr k (i + 1) (fun j u v => h j (by omega) (by omega))]
theorem br_Clash (h2 : S2 a b) (h3 : S3 a b) : mClash b = xClash a := by
  unfold mClash xClash
  rw [h2.1.1]
  refine fc_congr _ _ (fun i u v => fs3_congr _ _ (fun j u2 v2 => ?_))
  have e : mOp b i j = xOp a i j := by
    unfold mOp xOp
    rw [h2.2.1 i u (by omega), h2.2.1 j (by omega) (by omega)]
    split
    · refine fs3_congr _ _ (fun z _ _ => ?_)
      unfold mO xO
      rw [br_En h2 h3 ⟨u, by omega⟩, br_En h2 h3 (s := j) ⟨by omega, by omega⟩]
      rfl
    · rfl
  show (if mOp b i j = -9 then (0 : Int) else 3) = if xOp a i j = -9 then 0 else 3
  rw [e]
end BR

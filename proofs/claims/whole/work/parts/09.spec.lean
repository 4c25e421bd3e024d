/-! what both sides compute -/
/-- the end of a value v by the law w with mark t on a scale of range r -/
def EB (w t r v : Int) : Int := if w = 0 then (if v < t then 0 else 1) else if w = 3 then (if 2 * v < r then 0 else if 2 * v = r then 2 else 1) else if v = 0 then 0 else if v = r then 1 else if w = 1 then 3 else 2
/-- held between 0 and r -/
def cl (r x : Int) : Int := if x < 0 then 0 else if r < x then r else x
/-- the sum of f over k numbers from s on -/
def smf (f : Int → Int) : Int → Nat → Int
  | _, 0 => 0
  | s, k + 1 => f s + smf f (s + 1) k
/-- the first of k numbers from s on at which E is 3; -9 -/
def fs3 (E : Int → Int) : Nat → Int → Int
  | 0, _ => -9
  | k + 1, s => if E s = 3 then s else fs3 E k (s + 1)
def p2 (l : Int) : Int := if l = 0 then 1 else if l = 1 then 2 else if l = 2 then 4 else if l = 3 then 8 else 16
def pc4 (x : Int) : Int := x % 2 + x / 2 % 2 + x / 4 % 2 + x / 8 % 2
/-- the class: what stands fast of its land and its present -/
def XB (μ : Mem) : Prop := (0 ≤ μ 13 0 ∧ μ 13 0 ≤ 4) ∧ (0 ≤ μ 13 1 ∧ μ 13 1 ≤ 4) ∧ (0 ≤ μ 13 2 ∧ μ 13 2 ≤ 8) ∧ (0 ≤ μ 13 3 ∧ μ 13 3 ≤ 9) ∧ (∀ s : Int, 0 ≤ s → s < μ 13 0 → 2 ≤ μ 14 s ∧ μ 14 s ≤ 30) ∧ (∀ l s : Int, 0 ≤ l → l < μ 13 1 → 0 ≤ s → s < μ 13 0 → -3 ≤ μ 15 (l * 4 + s) ∧ μ 15 (l * 4 + s) ≤ 3 ∧ 0 ≤ μ 18 (l * 4 + s) ∧ μ 18 (l * 4 + s) ≤ μ 14 s)
/-- the class: a life's value on a scale n years behind now, and its end -/
def xV (μ : Mem) (n l s : Int) : Int := cl (μ 14 s) (μ 18 (l * 4 + s) + n * μ 15 (l * 4 + s))
def xE (μ : Mem) (n l s : Int) : Int := EB (μ 19 s) (μ 20 s) (μ 14 s) (xV μ n l s)
theorem fs3_bound (E : Int → Int) : ∀ (k : Nat) (s : Int), fs3 E k s = -9 ∨ (s ≤ fs3 E k s ∧ fs3 E k s < s + k)
  | 0, _ => Or.inl rfl
  | k + 1, s => by
    unfold fs3
    split
    · exact Or.inr ⟨Int.le_refl _, by omega⟩
    · rcases fs3_bound E k (s + 1) with h | h
      · exact Or.inl h
      · exact Or.inr ⟨by omega, by omega⟩
theorem fs3_congr {E E' : Int → Int} : ∀ (k : Nat) (s : Int), (∀ i, s ≤ i → i < s + k → E i = E' i) → fs3 E k s = fs3 E' k s
  | 0, _, _ => rfl
  | k + 1, s, h => by
    unfold fs3
    rw [h s (Int.le_refl _) (by omega), fs3_congr k (s + 1) (fun i h1 h2 => h i (by omega) (by omega))]
theorem smf_congr {f g : Int → Int} : ∀ (k : Nat) (s : Int), (∀ i, s ≤ i → i < s + k → f i = g i) → smf f s k = smf g s k
  | 0, _, _ => rfl
  | k + 1, s, h => by
    unfold smf
    rw [h s (Int.le_refl _) (by omega), smf_congr k (s + 1) (fun i h1 h2 => h i (by omega) (by omega))]
theorem smf_bound {f : Int → Int} {a b : Int} : ∀ (k : Nat) (s : Int), (∀ i, s ≤ i → i < s + k → a ≤ f i ∧ f i ≤ b) → a * k ≤ smf f s k ∧ smf f s k ≤ b * k
  | 0, _, _ => by simp [smf]
  | k + 1, s, h => by
    have h1 := h s (Int.le_refl _) (by omega)
    have h2 := smf_bound k (s + 1) (fun i h1 h2 => h i (by omega) (by omega))
    unfold smf
    have e1 : a * ((k + 1 : Nat) : Int) = a * k + a := by rw [Int.natCast_add, Int.mul_add]; simp
    have e2 : b * ((k + 1 : Nat) : Int) = b * k + b := by rw [Int.natCast_add, Int.mul_add]; simp
    omega
theorem cl_bound {r x : Int} (h : 0 ≤ r) : 0 ≤ cl r x ∧ cl r x ≤ r := by unfold cl; (repeat' split) <;> omega
theorem EB_bound (w t r v : Int) : 0 ≤ EB w t r v ∧ EB w t r v ≤ 3 := by unfold EB; (repeat' split) <;> omega
theorem J.drop {T : List Sh} {X : Cx} {nL : Nat} {pc : Nat} {L : List (Option AV)} {st : List AV} {μ : Mem} (i : Nat) (kk : J T X nL pc (L.set i none) st μ) : J T X nL pc L st μ := J.less (fun j v h => by
  rw [List.getElem?_set] at h
  split at h
  · split at h <;> cases h
  · exact h) kk
theorem shl_p2 (l : Int) (h : 0 ≤ l ∧ l < 4) : (Int32.ofInt 1 <<< (Int32.ofInt l &&& 31)).toInt = p2 l := by
  rcases (show l = 0 ∨ l = 1 ∨ l = 2 ∨ l = 3 by omega) with rfl | rfl | rfl | rfl <;> decide
theorem or_p2_all : ∀ l : Fin 4, ∀ a : Fin 8, ((a.val : Nat) : Int) < p2 l.val → (Int32.ofInt (a.val : Nat) ||| Int32.ofInt (p2 l.val)).toInt = (a.val : Nat) + p2 l.val := by decide
theorem or_p2 (a l : Int) (h : 0 ≤ l ∧ l < 4) (ha : 0 ≤ a) (hb : a < p2 l) : (Int32.ofInt a ||| Int32.ofInt (p2 l)).toInt = a + p2 l := by
  have hp : p2 l ≤ 8 := by unfold p2; (repeat' split) <;> omega
  have := or_p2_all ⟨l.toNat, by omega⟩ ⟨a.toNat, by omega⟩
  simp only [Int.toNat_of_nonneg h.1, Int.toNat_of_nonneg ha] at this
  exact this hb
theorem p2_bound (l : Int) : 1 ≤ p2 l ∧ p2 l ≤ 16 := by unfold p2; (repeat' split) <;> omega
theorem p2_succ (l : Int) (h : 0 ≤ l ∧ l < 4) : p2 (l + 1) = 2 * p2 l := by
  rcases (show l = 0 ∨ l = 1 ∨ l = 2 ∨ l = 3 by omega) with rfl | rfl | rfl | rfl <;> decide
/-- the class: the least scale on which a life is at no end n years behind now -/
def xU (μ : Mem) (n l : Int) : Int := fs3 (fun s => xE μ n l s) (μ 13 0).toNat 0
def xBits (μ : Mem) : Int := smf (fun l => if xU μ 0 l = -9 then 0 else p2 l) 0 (μ 13 1).toNat
def xC (μ : Mem) (e l : Int) : Int := smf (fun s => if EB (μ 19 s) (μ 20 s) (μ 14 s) (μ 18 (l * 4 + s)) = e then 1 else 0) 0 (μ 13 0).toNat
def xDr (μ : Mem) : Int := smf (fun l => xC μ 2 l) 0 (μ 13 1).toNat
def xUB (μ : Mem) (l n s w t : Int) : Int := fs3 (fun c => if c = s then EB w t (μ 14 s) (xV μ n l c) else xE μ n l c) (μ 13 0).toNat 0
def xUY (μ : Mem) (s w t : Int) : Int := smf (fun l => smf (fun n => if xUB μ l n s w t = -9 then 0 else 1) 0 21) 0 (μ 13 1).toNat
def xEC (μ : Mem) (s t : Int) : Int := smf (fun l => smf (fun n => if xV μ n l s < t ↔ xV μ (n + 1) l s < t then 0 else 1) 0 20) 0 (μ 13 1).toNat
def xO (μ : Mem) (a b v : Int) : Int := if (EB (μ 19 a) (μ 20 a) (μ 14 a) v = 0 ∧ EB (μ 19 b) (μ 20 b) (μ 14 b) v = 1) ∨ (EB (μ 19 a) (μ 20 a) (μ 14 a) v = 1 ∧ EB (μ 19 b) (μ 20 b) (μ 14 b) v = 0) then 3 else 0
def xOp (μ : Mem) (a b : Int) : Int := if μ 14 a = μ 14 b then fs3 (xO μ a b) (μ 14 a + 1).toNat 0 else -9
/-- a pair, the first: 10 a + b -/
def fc (g : Int → Int) : Nat → Int → Int
  | 0, _ => -9
  | k + 1, a => if g a = -9 then fc g k (a + 1) else 10 * a + g a
/-- the best t of k from t on, and how many -/
def bj (f : Int → Int) : Nat → Int → Int → Int → Int × Int
  | 0, _, b, m => (b, m)
  | k + 1, t, b, m => if f t < m then bj f k (t + 1) t (f t) else bj f k (t + 1) b m
def fN (U : Int → Int) (w : Int) : Nat → Int → Int
  | 0, _ => -9
  | k + 1, n => if U n = -9 then fN U w k (n + 1) else if w = 0 then n else U n

/-! THE ABSTRACT MACHINE: values are whole numbers in range, references are places in a fixed list of cells, the memory is a function (cell, slot). -/
abbrev Mem : Type := Nat → Int → Int
abbrev AV : Type := Int ⊕ (Nat ⊕ Int)
abbrev aI (x : Int) : AV := .inl x
abbrev aR (i : Nat) : AV := .inr (.inl i)
abbrev aL (z : Int) : AV := .inr (.inr z)
abbrev okI (x : Int) : Prop := -2147483648 ≤ x ∧ x < 2147483648
def okV (v : AV) : Prop := match v with
  | .inl x => okI x
  | .inr _ => True
def okM (μ : Mem) : Prop := ∀ (c : Nat) (j : Int), c < 1000 → okI (μ c j)
def cv (ad : Nat → Nat) (v : AV) : Value := match v with
  | .inl x => .int (Int32.ofInt x)
  | .inr (.inl i) => .ref (ad i)
  | .inr (.inr z) => .long (Int64.ofInt z)
abbrev Sh : Type := (Nat × List Nat) ⊕ (Nat × Nat × List Nat)
def fV (ad : Nat → Nat) (μ : Mem) (c : Nat) (k : Nat) (code : Nat) : Value := match code with
  | 0 => .int (Int32.ofInt (μ c k))
  | 1 => .long (Int64.ofInt (μ (1000 + c) k))
  | j + 2 => .ref (ad j)
def cE (ad : Nat → Nat) (cA : Nat → ClassId) (μ : Mem) (c : Nat) (sh : Sh) : va_E := match sh with
  | .inl o => .inr (o.1, o.2.mapIdx (fun k code => fV ad μ c k code))
  | .inr a => if a.1 = 2 then .inl (cA 2, a.2.1, .inr (.inr (.inr (.inr (fun j => (a.2.2[j]?).map ad))))) else .inl (cA a.1, a.2.1, .inl (fun j => Int32.ofInt (μ c j)))
def wOf (T : List Sh) (ad : Nat → Nat) (cA : Nat → ClassId) (μ : Mem) : va_W := T.mapIdx (fun i sh => (ad i, cE ad cA μ i sh))
def up (μ : Mem) (c : Nat) (j : Int) (v : Int) : Mem := fun c' j' => if c' = c ∧ j' = j then v else μ c' j'
/-- the first n of array a into array b -/
def cpy (μ : Mem) (a b : Nat) (n : Int) : Mem := fun c j => if c = b ∧ 0 ≤ j ∧ j < n then μ a j else μ c j
theorem wOf_at {T : List Sh} {ad : Nat → Nat} {cA : Nat → ClassId} {μ : Mem} {i : Nat} {sh : Sh} (h : T[i]? = some sh) : (wOf T ad cA μ)[i]? = some (ad i, cE ad cA μ i sh) := by
  simp [wOf, List.getElem?_mapIdx, h]
theorem cE_congr {ad : Nat → Nat} {cA : Nat → ClassId} {μ μ' : Mem} {c : Nat} {sh : Sh} (h1 : μ' c = μ c) (h2 : μ' (1000 + c) = μ (1000 + c)) : cE ad cA μ' c sh = cE ad cA μ c sh := by
  have h : fV ad μ' c = fV ad μ c := by
    funext k code
    match code with
    | 0 => simp only [fV, h1]
    | 1 => simp only [fV, h2]
    | j + 2 => rfl
  cases sh <;> simp only [cE, h, h1]
theorem wOf_set {T : List Sh} {ad : Nat → Nat} {cA : Nat → ClassId} {μ μ' : Mem} {i : Nat} {sh : Sh} {e : va_E} (hT : T.length ≤ 1000) (h : T[i]? = some sh) (he : e = cE ad cA μ' i sh) (hm : ∀ c, c ≠ i → c < 1000 → μ' c = μ c ∧ μ' (1000 + c) = μ (1000 + c)) : (wOf T ad cA μ).set i (ad i, e) = wOf T ad cA μ' := by
  subst he
  have hi : i < T.length := (List.getElem?_eq_some_iff.mp h).1
  apply List.ext_getElem?
  intro c
  by_cases hc : c = i
  · subst hc
    rw [List.getElem?_set_self (by simp [wOf]; exact hi), wOf_at h]
  · rw [List.getElem?_set_ne (Ne.symm hc)]
    cases hT' : T[c]? with
    | none => simp [wOf, List.getElem?_mapIdx, hT']
    | some sh' =>
      rw [wOf_at hT', wOf_at hT']
      have hcl : c < 1000 := Nat.lt_of_lt_of_le (List.getElem?_eq_some_iff.mp hT').1 hT
      obtain ⟨h1, h2⟩ := hm c hc hcl
      rw [cE_congr h1 h2]
theorem fset {codes : List Nat} {μ μ' : Mem} {ad : Nat → Nat} {c k code : Nat} {v : Value} (hk : codes[k]? = some code) (hv : fV ad μ' c k code = v) (ho : ∀ j code', j ≠ k → fV ad μ' c j code' = fV ad μ c j code') : (codes.mapIdx (fun k code => fV ad μ c k code)).set k v = codes.mapIdx (fun k code => fV ad μ' c k code) := by
  have hl := (List.getElem?_eq_some_iff.mp hk).1
  apply List.ext_getElem?
  intro j
  by_cases hj : j = k
  · subst hj
    rw [List.getElem?_set_self (by simpa using hl)]
    simp [List.getElem?_mapIdx, hk, hv]
  · rw [List.getElem?_set_ne (Ne.symm hj)]
    simp only [List.getElem?_mapIdx]
    cases codes[j]? with
    | none => rfl
    | some z => simp [ho j z hj]
theorem fat {codes : List Nat} {μ : Mem} {ad : Nat → Nat} {c k code : Nat} (hk : codes[k]? = some code) : (codes.mapIdx (fun k code => fV ad μ c k code))[k]? = some (fV ad μ c k code) := by
  simp [List.getElem?_mapIdx, hk]
theorem toI {x : Int} (h : okI x) : (Int32.ofInt x).toInt = x := Int32.toInt_ofInt_of_le (by have := h.1; omega) (by have := h.2; omega)
theorem i32_lt {x y : Int} (hx : okI x) (hy : okI y) : Int32.ofInt x < Int32.ofInt y ↔ x < y := by rw [Int32.lt_iff_toInt_lt, toI hx, toI hy]
theorem i32_le {x y : Int} (hx : okI x) (hy : okI y) : Int32.ofInt x ≤ Int32.ofInt y ↔ x ≤ y := by rw [Int32.le_iff_toInt_le, toI hx, toI hy]
theorem i32_eq {x y : Int} (hx : okI x) (hy : okI y) : Int32.ofInt x = Int32.ofInt y ↔ x = y := ⟨fun h => by have := congrArg Int32.toInt h; rwa [toI hx, toI hy] at this, fun h => by rw [h]⟩
theorem ok0 : okI 0 := by decide
theorem i32_0 : (0 : Int32) = Int32.ofInt 0 := rfl
theorem okTo (x : Int32) : okI x.toInt := ⟨by have := Int32.le_toInt x; omega, by have := Int32.toInt_lt x; omega⟩
theorem toNI {x : Int} (h : okI x) : (Int32.ofInt x).toNatClampNeg = x.toNat := by
  show (Int32.ofInt x).toInt.toNat = x.toNat
  rw [toI h]
theorem vpin {x : Int} {n : Nat} (h : okI x) (h0 : 0 ≤ x) (h1 : x < n) : vp_in (Int32.ofInt x) n := by
  intro q
  rcases q with q | q
  · rw [i32_0, i32_lt h ok0] at q
    omega
  · rw [toNI h] at q
    omega
def hasL (ad : Nat → Nat) (ls : Array Slot) (nL : Nat) (L : List (Option AV)) : Prop := ls.size = nL ∧ lv_wf ls ∧ ∀ (i : Nat) (v : AV), L[i]? = some (some v) → ls[i]? = some (.val (cv ad v)) ∧ (cv ad v).category = 1
def lvOf (ad : Nat → Nat) (L : List (Option AV)) : List (Nat × Value) := (List.range L.length).filterMap (fun i => match L[i]? with
  | some (some v) => some (i, cv ad v)
  | _ => none)
theorem lvOf_mem {ad : Nat → Nat} {L : List (Option AV)} {i : Nat} {v : AV} (h : L[i]? = some (some v)) : (i, cv ad v) ∈ lvOf ad L :=
  List.mem_filterMap.mpr ⟨i, List.mem_range.mpr (List.getElem?_eq_some_iff.mp h).1, by rw [h]⟩
theorem hasL.lv {ad : Nat → Nat} {ls : Array Slot} {nL : Nat} {L : List (Option AV)} (h : hasL ad ls nL L) : lv_has ls nL (lvOf ad L) := ⟨h.1, h.2.1, fun q hq => by
  obtain ⟨i, -, hi⟩ := List.mem_filterMap.mp hq
  cases hv : L[i]? with
  | none => rw [hv] at hi; cases hi
  | some o =>
    cases o with
    | none => rw [hv] at hi; cases hi
    | some v =>
      rw [hv] at hi
      cases hi
      exact (h.2.2 i v hv).1⟩
theorem hasL.set {ad : Nat → Nat} {ls ls' : Array Slot} {nL : Nat} {L : List (Option AV)} {i : Nat} {v : AV} (h : hasL ad ls nL L) (hl : lv_has ls' nL ((i, cv ad v) :: (lvOf ad L).filter (fun q => !(q.1 == i) && !(q.1 + 1 == i && q.2.category == 2)))) (hc : (cv ad v).category = 1) : hasL ad ls' nL (L.set i (some v)) := by
  refine ⟨hl.1, hl.2.1, fun j w hw => ?_⟩
  by_cases hj : j = i
  · subst hj
    rw [List.getElem?_set, if_pos rfl] at hw
    split at hw
    · cases hw
      exact ⟨hl.2.2 _ List.mem_cons_self, hc⟩
    · cases hw
  · rw [List.getElem?_set_ne (Ne.symm hj)] at hw
    have h0 := h.2.2 j w hw
    exact ⟨hl.2.2 (j, cv ad w) (List.mem_cons_of_mem _ (List.mem_filter.mpr ⟨lvOf_mem hw, by simp [hj, h0.2]⟩)), h0.2⟩
theorem okL_set {L : List (Option AV)} {i : Nat} {v : AV} (h : ∀ w, some w ∈ L → okV w) (hv : okV v) : ∀ w, some w ∈ L.set i (some v) → okV w := by
  intro w hw
  rcases List.mem_or_eq_of_mem_set hw with h1 | h1
  · exact h w h1
  · cases h1; exact hv
abbrev Cx : Type := Program × Launch × Env × Room × State × MethodId × Array Value × List Frame × Method × Code × va_G × (Nat → Nat) × (Nat → ClassId) × (Nat → Prop) × (Option AV → Mem → Prop)
def PostX (X : Cx) : Option AV → Mem → Prop := X.2.2.2.2.2.2.2.2.2.2.2.2.2.2
def tysOf (cA : Nat → ClassId) : List (ClassId × FieldType) := [(cA 0, .int), (cA 1, .boolean), (cA 2, .object RX2)]
def QC (T : List Sh) (ad : Nat → Nat) (cA : Nat → ClassId) (D : va_G) (A : Nat → Prop) (Post : Option AV → Mem → Prop) : Array Value → State → Outcome → State → Prop := fun _ st oc t => (∃ (r : Option AV) (μ' : Mem), oc = .returned (r.map (cv ad)) ∧ Post r μ' ∧ (∀ v, r = some v → okV v) ∧ okM μ' ∧ va_P D vwCl (wOf T ad cA μ') t.heap) ∧ va_F A st t
/-- at this place of the code, with these locals, this stack and this memory, the method comes to an end as its contract says -/
def J (T : List Sh) (X : Cx) (nL : Nat) (pc : Nat) (L : List (Option AV)) (st : List AV) (μ : Mem) : Prop := match X with
  | (p, l, e, R, s, m, args, below, meth, c, D, ad, cA, A, Post) => ∀ (H : Heap) (locs : List Loc) (ls : Array Slot), va_P D vwCl (wOf T ad cA μ) H → va_S A s.heap H locs → hasL ad ls nL L → (∀ v, some v ∈ L → okV v) → (∀ v ∈ st, okV v) → okM μ → W p l e R s m args below meth c H locs 0 0 (MQ below (QC T ad cA D A Post) args s 0 0 A) (F0 m pc ls (st.map (cv ad)))
/-- what stands fast in a method's body -/
def G (T : List Sh) (X : Cx) (own : String) (cc : ByteArray) (nL fr lo : Nat) (ret : Option FieldType) : Prop := match X with
  | (p, _, _, R, s, m, args, _, meth, c, D, ad, cA, A, _) => p.tables.exec = Jvm.exec ∧ c.code = cc ∧ c.maxLocals = nL ∧ s.vm.findClass own = some m.cls ∧ (∀ w ∈ BIG, w.before args s = true) ∧ va_K D vwCl (tysOf cA) s ∧ (∀ μ, va_D A (wOf T ad cA μ)) ∧ (∀ q, s.heap.size ≤ q → A q) ∧ R = ({ frames := fr, cells := 0, slots := 0, locals := lo } : Room) ∧ meth.sig.returnType = ret ∧ meth.locks = false ∧ T.length ≤ 1000 ∧ (∀ w ∈ nestW, va_Nw w s) ∧ (∀ i j, i < T.length → j < T.length → ad i = ad j → i = j)
section JR
variable {T : List Sh} {X : Cx} {own : String} {cc : ByteArray} {nL fr lo : Nat} {ret : Option FieldType} {pc : Nat} {L : List (Option AV)} {st : List AV} {μ : Mem}
/-- the top of the stack is in range -/
theorem J.okT {x : Int} (kk : okI x → J T X nL pc L (aI x :: st) μ) : J T X nL pc L (aI x :: st) μ := by
  obtain ⟨p, l, e, R, s, m, args, below, meth, c, D, ad, cA, A, Post⟩ := X
  intro H locs ls hP hS hL oL oS oM
  exact kk (List.forall_mem_cons.mp oS).1 H locs ls hP hS hL oL oS oM
theorem J.okLoc {x : Int} (i : Nat) (hi : L[i]? = some (some (aI x))) (kk : okI x → J T X nL pc L st μ) : J T X nL pc L st μ := by
  obtain ⟨p, l, e, R, s, m, args, below, meth, c, D, ad, cA, A, Post⟩ := X
  intro H locs ls hP hS hL oL oS oM
  exact kk (oL (aI x) (List.mem_of_getElem? hi)) H locs ls hP hS hL oL oS oM
theorem J.okMem (kk : okM μ → J T X nL pc L st μ) : J T X nL pc L st μ := by
  obtain ⟨p, l, e, R, s, m, args, below, meth, c, D, ad, cA, A, Post⟩ := X
  intro H locs ls hP hS hL oL oS oM
  exact kk oM H locs ls hP hS hL oL oS oM
/-- fewer locals -/
theorem J.less {L' : List (Option AV)} (h : ∀ (i : Nat) (v : AV), L'[i]? = some (some v) → L[i]? = some (some v)) (kk : J T X nL pc L' st μ) : J T X nL pc L st μ := by
  obtain ⟨p, l, e, R, s, m, args, below, meth, c, D, ad, cA, A, Post⟩ := X
  intro H locs ls hP hS hL oL oS oM
  refine kk H locs ls hP hS ⟨hL.1, hL.2.1, fun i v q => hL.2.2 i v (h i v q)⟩ (fun v hv => ?_) oS oM
  obtain ⟨i, hi⟩ := List.getElem?_of_mem hv
  exact oL v (List.mem_of_getElem? (h i v hi))
theorem J.iconst (hG : G T X own cc nL fr lo ret) {n : Int} (dg : decode cc pc = .ok (.iconst n, 1)) (ho : okI n) (kk : J T X nL (pc + 1) L (aI n :: st) μ) : J T X nL pc L (st) μ := by
  obtain ⟨p, l, e, R, s, m, args, below, meth, c, D, ad, cA, A, Post⟩ := X
  obtain ⟨hx, hb, hml, hown, hts, hK, hD, hA, hR, hret, hlocks, hT, hN, had⟩ := hG
  intro H locs ls hP hS hL oL oS oM
  exact lv_iconst (v := Int32.ofInt n) hx hb dg rfl (kk H locs ls hP hS hL oL (List.forall_mem_cons.mpr ⟨ho, oS⟩) oM)
theorem J.bipush (hG : G T X own cc nL fr lo ret) {n : Int} (dg : decode cc pc = .ok (.bipush n, 2)) (hv : (Int8.ofInt n).toInt32 = Int32.ofInt n) (ho : okI n) (kk : J T X nL (pc + 2) L (aI n :: st) μ) : J T X nL pc L (st) μ := by
  obtain ⟨p, l, e, R, s, m, args, below, meth, c, D, ad, cA, A, Post⟩ := X
  obtain ⟨hx, hb, hml, hown, hts, hK, hD, hA, hR, hret, hlocks, hT, hN, had⟩ := hG
  intro H locs ls hP hS hL oL oS oM
  exact lv_bipush hx hb dg hv (kk H locs ls hP hS hL oL (List.forall_mem_cons.mpr ⟨ho, oS⟩) oM)
theorem J.sipush (hG : G T X own cc nL fr lo ret) {n : Int} (dg : decode cc pc = .ok (.sipush n, 3)) (hv : (Int16.ofInt n).toInt32 = Int32.ofInt n) (ho : okI n) (kk : J T X nL (pc + 3) L (aI n :: st) μ) : J T X nL pc L (st) μ := by
  obtain ⟨p, l, e, R, s, m, args, below, meth, c, D, ad, cA, A, Post⟩ := X
  obtain ⟨hx, hb, hml, hown, hts, hK, hD, hA, hR, hret, hlocks, hT, hN, had⟩ := hG
  intro H locs ls hP hS hL oL oS oM
  exact lv_sipush hx hb dg hv (kk H locs ls hP hS hL oL (List.forall_mem_cons.mpr ⟨ho, oS⟩) oM)
theorem J.ldc (hG : G T X own cc nL fr lo ret) {n : Int} {v : Int32} {idx : Nat} (dg : decode cc pc = .ok (.ldc idx, 2)) (hl : Cond.constant own idx v ∈ BIG) (hv : v = Int32.ofInt n) (ho : okI n) (kk : J T X nL (pc + 2) L (aI n :: st) μ) : J T X nL pc L (st) μ := by
  obtain ⟨p, l, e, R, s, m, args, below, meth, c, D, ad, cA, A, Post⟩ := X
  obtain ⟨hx, hb, hml, hown, hts, hK, hD, hA, hR, hret, hlocks, hT, hN, had⟩ := hG
  intro H locs ls hP hS hL oL oS oM
  subst hv
  exact lv_ldc hx hb hown (hts _ hl) dg (kk H locs ls hP hS hL oL (List.forall_mem_cons.mpr ⟨ho, oS⟩) oM)
theorem J.ldc2 (hG : G T X own cc nL fr lo ret) {n : Int} {v : Int64} {idx : Nat} (dg : decode cc pc = .ok (.ldc2_w idx, 3)) (hl : Cond.constantLong own idx v ∈ BIG) (hv : v = Int64.ofInt n) (kk : J T X nL (pc + 3) L (aL n :: st) μ) : J T X nL pc L (st) μ := by
  obtain ⟨p, l, e, R, s, m, args, below, meth, c, D, ad, cA, A, Post⟩ := X
  obtain ⟨hx, hb, hml, hown, hts, hK, hD, hA, hR, hret, hlocks, hT, hN, had⟩ := hG
  intro H locs ls hP hS hL oL oS oM
  subst hv
  exact lv_ldc2 hx hb hown (hts _ hl) dg (kk H locs ls hP hS hL oL (List.forall_mem_cons.mpr ⟨trivial, oS⟩) oM)
theorem J.lconst (hG : G T X own cc nL fr lo ret) {n : Fin 2} {z : Int} (dg : decode cc pc = .ok (.lconst n, 1)) (hv : Int64.ofNat (n : Nat) = Int64.ofInt z) (kk : J T X nL (pc + 1) L (aL z :: st) μ) : J T X nL pc L (st) μ := by
  obtain ⟨p, l, e, R, s, m, args, below, meth, c, D, ad, cA, A, Post⟩ := X
  obtain ⟨hx, hb, hml, hown, hts, hK, hD, hA, hR, hret, hlocks, hT, hN, had⟩ := hG
  intro H locs ls hP hS hL oL oS oM
  exact lv_lconst hx hb dg hv (kk H locs ls hP hS hL oL (List.forall_mem_cons.mpr ⟨trivial, oS⟩) oM)
theorem J.iload_n (hG : G T X own cc nL fr lo ret) {k : Fin 4} {i : Nat} {x : Int} (dg : decode cc pc = .ok (.iload_n k, 1)) (hi : (k : Nat) = i) (hl : L[i]? = some (some (aI x))) (kk : J T X nL (pc + 1) L (aI x :: st) μ) : J T X nL pc L (st) μ := by
  obtain ⟨p, l, e, R, s, m, args, below, meth, c, D, ad, cA, A, Post⟩ := X
  obtain ⟨hx, hb, hml, hown, hts, hK, hD, hA, hR, hret, hlocks, hT, hN, had⟩ := hG
  intro H locs ls hP hS hL oL oS oM
  exact lv_iload_n hx hb dg hi (hL.2.2 i (aI x) hl).1 (kk H locs ls hP hS hL oL (List.forall_mem_cons.mpr ⟨oL _ (List.mem_of_getElem? hl), oS⟩) oM)
theorem J.iload (hG : G T X own cc nL fr lo ret)  {i : Nat} {x : Int} (dg : decode cc pc = .ok (.iload i, 2)) (hl : L[i]? = some (some (aI x))) (kk : J T X nL (pc + 2) L (aI x :: st) μ) : J T X nL pc L (st) μ := by
  obtain ⟨p, l, e, R, s, m, args, below, meth, c, D, ad, cA, A, Post⟩ := X
  obtain ⟨hx, hb, hml, hown, hts, hK, hD, hA, hR, hret, hlocks, hT, hN, had⟩ := hG
  intro H locs ls hP hS hL oL oS oM
  exact lv_iload hx hb dg (hL.2.2 i (aI x) hl).1 (kk H locs ls hP hS hL oL (List.forall_mem_cons.mpr ⟨oL _ (List.mem_of_getElem? hl), oS⟩) oM)
theorem J.aload_n (hG : G T X own cc nL fr lo ret) {k : Fin 4} {i : Nat} {x : Nat} (dg : decode cc pc = .ok (.aload_n k, 1)) (hi : (k : Nat) = i) (hl : L[i]? = some (some (aR x))) (kk : J T X nL (pc + 1) L (aR x :: st) μ) : J T X nL pc L (st) μ := by
  obtain ⟨p, l, e, R, s, m, args, below, meth, c, D, ad, cA, A, Post⟩ := X
  obtain ⟨hx, hb, hml, hown, hts, hK, hD, hA, hR, hret, hlocks, hT, hN, had⟩ := hG
  intro H locs ls hP hS hL oL oS oM
  exact lv_aload_n hx hb dg hi (hL.2.2 i (aR x) hl).1 (kk H locs ls hP hS hL oL (List.forall_mem_cons.mpr ⟨trivial, oS⟩) oM)
theorem J.aload (hG : G T X own cc nL fr lo ret)  {i : Nat} {x : Nat} (dg : decode cc pc = .ok (.aload i, 2)) (hl : L[i]? = some (some (aR x))) (kk : J T X nL (pc + 2) L (aR x :: st) μ) : J T X nL pc L (st) μ := by
  obtain ⟨p, l, e, R, s, m, args, below, meth, c, D, ad, cA, A, Post⟩ := X
  obtain ⟨hx, hb, hml, hown, hts, hK, hD, hA, hR, hret, hlocks, hT, hN, had⟩ := hG
  intro H locs ls hP hS hL oL oS oM
  exact lv_aload hx hb dg (hL.2.2 i (aR x) hl).1 (kk H locs ls hP hS hL oL (List.forall_mem_cons.mpr ⟨trivial, oS⟩) oM)
theorem J.istore_n (hG : G T X own cc nL fr lo ret) {k : Fin 4} {i : Nat} {x : Int} (dg : decode cc pc = .ok (.istore_n k, 1)) (hi : (k : Nat) = i) (hn : i < nL) (kk : J T X nL (pc + 1) (L.set i (some (aI x))) (st) μ) : J T X nL pc L (aI x :: st) μ := by
  obtain ⟨p, l, e, R, s, m, args, below, meth, c, D, ad, cA, A, Post⟩ := X
  obtain ⟨hx, hb, hml, hown, hts, hK, hD, hA, hR, hret, hlocks, hT, hN, had⟩ := hG
  intro H locs ls hP hS hL oL oS oM
  exact lv_istore_n (x := Int32.ofInt x) (lv := lvOf ad L) hx hb dg hi hL.lv hn rfl (fun ls1 hl1 => kk H locs ls1 hP hS (hL.set (v := aI x) hl1 rfl) (okL_set oL (List.forall_mem_cons.mp oS).1) (List.forall_mem_cons.mp oS).2 oM)
theorem J.istore (hG : G T X own cc nL fr lo ret)  {i : Nat} {x : Int} (dg : decode cc pc = .ok (.istore i, 2)) (hn : i < nL) (kk : J T X nL (pc + 2) (L.set i (some (aI x))) (st) μ) : J T X nL pc L (aI x :: st) μ := by
  obtain ⟨p, l, e, R, s, m, args, below, meth, c, D, ad, cA, A, Post⟩ := X
  obtain ⟨hx, hb, hml, hown, hts, hK, hD, hA, hR, hret, hlocks, hT, hN, had⟩ := hG
  intro H locs ls hP hS hL oL oS oM
  exact lv_istore (x := Int32.ofInt x) (lv := lvOf ad L) hx hb dg hL.lv hn rfl (fun ls1 hl1 => kk H locs ls1 hP hS (hL.set (v := aI x) hl1 rfl) (okL_set oL (List.forall_mem_cons.mp oS).1) (List.forall_mem_cons.mp oS).2 oM)
theorem J.iinc (hG : G T X own cc nL fr lo ret) {i : Nat} {n x : Int} (dg : decode cc pc = .ok (.iinc i n, 3)) (hn : i < nL) (hl : L[i]? = some (some (aI x))) (ho : okI x → okI (x + n)) (kk : J T X nL (pc + 3) (L.set i (some (aI (x + n)))) (st) μ) : J T X nL pc L (st) μ := by
  obtain ⟨p, l, e, R, s, m, args, below, meth, c, D, ad, cA, A, Post⟩ := X
  obtain ⟨hx, hb, hml, hown, hts, hK, hD, hA, hR, hret, hlocks, hT, hN, had⟩ := hG
  intro H locs ls hP hS hL oL oS oM
  have ox : okI x := oL (aI x) (List.mem_of_getElem? hl)
  obtain ⟨k, hk⟩ := List.getElem?_of_mem (lvOf_mem (ad := ad) hl)
  exact lv_iinc (lv := lvOf ad L) (v := Int32.ofInt (x + n)) hx hb dg hL.lv (k := k) hk (by rw [Int32.ofInt_add]) hn rfl (fun ls1 hl1 => kk H locs ls1 hP hS (hL.set (v := aI (x + n)) hl1 rfl) (okL_set oL (ho ox)) oS oM)
theorem J.iadd (hG : G T X own cc nL fr lo ret) {x y : Int} (dg : decode cc pc = .ok (.iadd, 1)) (ho : okI x → okI y → okI (x + y)) (kk : J T X nL (pc + 1) L (aI (x + y) :: st) μ) : J T X nL pc L (aI y :: aI x :: st) μ := by
  obtain ⟨p, l, e, R, s, m, args, below, meth, c, D, ad, cA, A, Post⟩ := X
  obtain ⟨hx, hb, hml, hown, hts, hK, hD, hA, hR, hret, hlocks, hT, hN, had⟩ := hG
  intro H locs ls hP hS hL oL oS oM
  obtain ⟨oy, oS⟩ := List.forall_mem_cons.mp oS
  obtain ⟨ox, oS⟩ := List.forall_mem_cons.mp oS
  have k := kk H locs ls hP hS hL oL (List.forall_mem_cons.mpr ⟨ho ox oy, oS⟩) oM
  have e : cv ad (aI (x + y)) = .int (Int32.ofInt x + Int32.ofInt y) := by show Value.int _ = _; rw [Int32.ofInt_add]
  rw [List.map_cons, e] at k
  exact lv_iadd hx hb dg k
theorem J.isub (hG : G T X own cc nL fr lo ret) {x y : Int} (dg : decode cc pc = .ok (.isub, 1)) (ho : okI x → okI y → okI (x - y)) (kk : J T X nL (pc + 1) L (aI (x - y) :: st) μ) : J T X nL pc L (aI y :: aI x :: st) μ := by
  obtain ⟨p, l, e, R, s, m, args, below, meth, c, D, ad, cA, A, Post⟩ := X
  obtain ⟨hx, hb, hml, hown, hts, hK, hD, hA, hR, hret, hlocks, hT, hN, had⟩ := hG
  intro H locs ls hP hS hL oL oS oM
  obtain ⟨oy, oS⟩ := List.forall_mem_cons.mp oS
  obtain ⟨ox, oS⟩ := List.forall_mem_cons.mp oS
  have k := kk H locs ls hP hS hL oL (List.forall_mem_cons.mpr ⟨ho ox oy, oS⟩) oM
  have e : cv ad (aI (x - y)) = .int (Int32.ofInt x - Int32.ofInt y) := by show Value.int _ = _; rw [Int32.ofInt_sub]
  rw [List.map_cons, e] at k
  exact lv_isub hx hb dg k
theorem J.imul (hG : G T X own cc nL fr lo ret) {x y : Int} (dg : decode cc pc = .ok (.imul, 1)) (ho : okI x → okI y → okI (x * y)) (kk : J T X nL (pc + 1) L (aI (x * y) :: st) μ) : J T X nL pc L (aI y :: aI x :: st) μ := by
  obtain ⟨p, l, e, R, s, m, args, below, meth, c, D, ad, cA, A, Post⟩ := X
  obtain ⟨hx, hb, hml, hown, hts, hK, hD, hA, hR, hret, hlocks, hT, hN, had⟩ := hG
  intro H locs ls hP hS hL oL oS oM
  obtain ⟨oy, oS⟩ := List.forall_mem_cons.mp oS
  obtain ⟨ox, oS⟩ := List.forall_mem_cons.mp oS
  have k := kk H locs ls hP hS hL oL (List.forall_mem_cons.mpr ⟨ho ox oy, oS⟩) oM
  have e : cv ad (aI (x * y)) = .int (Int32.ofInt x * Int32.ofInt y) := by show Value.int _ = _; rw [Int32.ofInt_mul]
  rw [List.map_cons, e] at k
  exact lv_imul hx hb dg k
theorem J.ineg (hG : G T X own cc nL fr lo ret) {x : Int} (dg : decode cc pc = .ok (.ineg, 1)) (ho : okI x → okI (-x)) (kk : J T X nL (pc + 1) L (aI (-x) :: st) μ) : J T X nL pc L (aI x :: st) μ := by
  obtain ⟨p, l, e, R, s, m, args, below, meth, c, D, ad, cA, A, Post⟩ := X
  obtain ⟨hx, hb, hml, hown, hts, hK, hD, hA, hR, hret, hlocks, hT, hN, had⟩ := hG
  intro H locs ls hP hS hL oL oS oM
  obtain ⟨ox, oS⟩ := List.forall_mem_cons.mp oS
  have k := kk H locs ls hP hS hL oL (List.forall_mem_cons.mpr ⟨ho ox, oS⟩) oM
  have e : cv ad (aI (-x)) = .int (0 - Int32.ofInt x) := by
    show Value.int _ = _
    rw [i32_0, ← Int32.ofInt_sub, Int.zero_sub]
  rw [List.map_cons, e] at k
  exact lv_ineg hx hb dg k
theorem J.ladd (hG : G T X own cc nL fr lo ret) {x y : Int} (dg : decode cc pc = .ok (.ladd, 1)) (kk : J T X nL (pc + 1) L (aL (x + y) :: st) μ) : J T X nL pc L (aL y :: aL x :: st) μ := by
  obtain ⟨p, l, e, R, s, m, args, below, meth, c, D, ad, cA, A, Post⟩ := X
  obtain ⟨hx, hb, hml, hown, hts, hK, hD, hA, hR, hret, hlocks, hT, hN, had⟩ := hG
  intro H locs ls hP hS hL oL oS oM
  obtain ⟨oy, oS⟩ := List.forall_mem_cons.mp oS
  obtain ⟨ox, oS⟩ := List.forall_mem_cons.mp oS
  have k := kk H locs ls hP hS hL oL (List.forall_mem_cons.mpr ⟨trivial, oS⟩) oM
  have e : cv ad (aL (x + y)) = .long (Int64.ofInt x + Int64.ofInt y) := by show Value.long _ = _; rw [Int64.ofInt_add]
  rw [List.map_cons, e] at k
  exact lv_ladd hx hb dg k
theorem J.iand (hG : G T X own cc nL fr lo ret) {x y : Int} (z : Int) (dg : decode cc pc = .ok (.iand, 1)) (hz : okI x → okI y → (Int32.ofInt x &&& Int32.ofInt y).toInt = z) (kk : J T X nL (pc + 1) L (aI z :: st) μ) : J T X nL pc L (aI y :: aI x :: st) μ := by
  obtain ⟨p, l, e, R, s, m, args, below, meth, c, D, ad, cA, A, Post⟩ := X
  obtain ⟨hx, hb, hml, hown, hts, hK, hD, hA, hR, hret, hlocks, hT, hN, had⟩ := hG
  intro H locs ls hP hS hL oL oS oM
  obtain ⟨oy, oS⟩ := List.forall_mem_cons.mp oS
  obtain ⟨ox, oS⟩ := List.forall_mem_cons.mp oS
  have hz := hz ox oy
  have k := kk H locs ls hP hS hL oL (List.forall_mem_cons.mpr ⟨by rw [← hz]; exact okTo _, oS⟩) oM
  have e : cv ad (aI z) = .int (Int32.ofInt x &&& Int32.ofInt y) := by show Value.int _ = _; rw [← hz, Int32.ofInt_toInt]
  rw [List.map_cons, e] at k
  exact lv_iand hx hb dg k
theorem J.ior (hG : G T X own cc nL fr lo ret) {x y : Int} (z : Int) (dg : decode cc pc = .ok (.ior, 1)) (hz : okI x → okI y → (Int32.ofInt x ||| Int32.ofInt y).toInt = z) (kk : J T X nL (pc + 1) L (aI z :: st) μ) : J T X nL pc L (aI y :: aI x :: st) μ := by
  obtain ⟨p, l, e, R, s, m, args, below, meth, c, D, ad, cA, A, Post⟩ := X
  obtain ⟨hx, hb, hml, hown, hts, hK, hD, hA, hR, hret, hlocks, hT, hN, had⟩ := hG
  intro H locs ls hP hS hL oL oS oM
  obtain ⟨oy, oS⟩ := List.forall_mem_cons.mp oS
  obtain ⟨ox, oS⟩ := List.forall_mem_cons.mp oS
  have hz := hz ox oy
  have k := kk H locs ls hP hS hL oL (List.forall_mem_cons.mpr ⟨by rw [← hz]; exact okTo _, oS⟩) oM
  have e : cv ad (aI z) = .int (Int32.ofInt x ||| Int32.ofInt y) := by show Value.int _ = _; rw [← hz, Int32.ofInt_toInt]
  rw [List.map_cons, e] at k
  exact lv_ior hx hb dg k
theorem J.ixor (hG : G T X own cc nL fr lo ret) {x y : Int} (z : Int) (dg : decode cc pc = .ok (.ixor, 1)) (hz : okI x → okI y → (Int32.ofInt x ^^^ Int32.ofInt y).toInt = z) (kk : J T X nL (pc + 1) L (aI z :: st) μ) : J T X nL pc L (aI y :: aI x :: st) μ := by
  obtain ⟨p, l, e, R, s, m, args, below, meth, c, D, ad, cA, A, Post⟩ := X
  obtain ⟨hx, hb, hml, hown, hts, hK, hD, hA, hR, hret, hlocks, hT, hN, had⟩ := hG
  intro H locs ls hP hS hL oL oS oM
  obtain ⟨oy, oS⟩ := List.forall_mem_cons.mp oS
  obtain ⟨ox, oS⟩ := List.forall_mem_cons.mp oS
  have hz := hz ox oy
  have k := kk H locs ls hP hS hL oL (List.forall_mem_cons.mpr ⟨by rw [← hz]; exact okTo _, oS⟩) oM
  have e : cv ad (aI z) = .int (Int32.ofInt x ^^^ Int32.ofInt y) := by show Value.int _ = _; rw [← hz, Int32.ofInt_toInt]
  rw [List.map_cons, e] at k
  exact lv_ixor hx hb dg k
theorem J.ishl (hG : G T X own cc nL fr lo ret) {x y : Int} (z : Int) (dg : decode cc pc = .ok (.ishl, 1)) (hz : okI x → okI y → (Int32.ofInt x <<< (Int32.ofInt y &&& 31)).toInt = z) (kk : J T X nL (pc + 1) L (aI z :: st) μ) : J T X nL pc L (aI y :: aI x :: st) μ := by
  obtain ⟨p, l, e, R, s, m, args, below, meth, c, D, ad, cA, A, Post⟩ := X
  obtain ⟨hx, hb, hml, hown, hts, hK, hD, hA, hR, hret, hlocks, hT, hN, had⟩ := hG
  intro H locs ls hP hS hL oL oS oM
  obtain ⟨oy, oS⟩ := List.forall_mem_cons.mp oS
  obtain ⟨ox, oS⟩ := List.forall_mem_cons.mp oS
  have hz := hz ox oy
  have k := kk H locs ls hP hS hL oL (List.forall_mem_cons.mpr ⟨by rw [← hz]; exact okTo _, oS⟩) oM
  have e : cv ad (aI z) = .int (Int32.ofInt x <<< (Int32.ofInt y &&& 31)) := by show Value.int _ = _; rw [← hz, Int32.ofInt_toInt]
  rw [List.map_cons, e] at k
  exact lv_ishl hx hb dg k
theorem J.ishr (hG : G T X own cc nL fr lo ret) {x y : Int} (z : Int) (dg : decode cc pc = .ok (.ishr, 1)) (hz : okI x → okI y → (Int32.ofInt x >>> (Int32.ofInt y &&& 31)).toInt = z) (kk : J T X nL (pc + 1) L (aI z :: st) μ) : J T X nL pc L (aI y :: aI x :: st) μ := by
  obtain ⟨p, l, e, R, s, m, args, below, meth, c, D, ad, cA, A, Post⟩ := X
  obtain ⟨hx, hb, hml, hown, hts, hK, hD, hA, hR, hret, hlocks, hT, hN, had⟩ := hG
  intro H locs ls hP hS hL oL oS oM
  obtain ⟨oy, oS⟩ := List.forall_mem_cons.mp oS
  obtain ⟨ox, oS⟩ := List.forall_mem_cons.mp oS
  have hz := hz ox oy
  have k := kk H locs ls hP hS hL oL (List.forall_mem_cons.mpr ⟨by rw [← hz]; exact okTo _, oS⟩) oM
  have e : cv ad (aI z) = .int (Int32.ofInt x >>> (Int32.ofInt y &&& 31)) := by show Value.int _ = _; rw [← hz, Int32.ofInt_toInt]
  rw [List.map_cons, e] at k
  exact lv_ishr hx hb dg k
theorem J.iushr (hG : G T X own cc nL fr lo ret) {x y : Int} (z : Int) (dg : decode cc pc = .ok (.iushr, 1)) (hz : okI x → okI y → ((Int32.ofInt x).toUInt32 >>> ((Int32.ofInt y).toUInt32 &&& Int32.toUInt32 31)).toInt32.toInt = z) (kk : J T X nL (pc + 1) L (aI z :: st) μ) : J T X nL pc L (aI y :: aI x :: st) μ := by
  obtain ⟨p, l, e, R, s, m, args, below, meth, c, D, ad, cA, A, Post⟩ := X
  obtain ⟨hx, hb, hml, hown, hts, hK, hD, hA, hR, hret, hlocks, hT, hN, had⟩ := hG
  intro H locs ls hP hS hL oL oS oM
  obtain ⟨oy, oS⟩ := List.forall_mem_cons.mp oS
  obtain ⟨ox, oS⟩ := List.forall_mem_cons.mp oS
  have hz := hz ox oy
  have k := kk H locs ls hP hS hL oL (List.forall_mem_cons.mpr ⟨by rw [← hz]; exact okTo _, oS⟩) oM
  exact lv_iushr (v := Int32.ofInt z) hx hb dg (by rw [← hz, Int32.ofInt_toInt]) k
theorem J.idiv (hG : G T X own cc nL fr lo ret) {x y : Int} (dg : decode cc pc = .ok (.idiv, 1)) (h0 : 0 ≤ x) (h1 : 0 < y) (kk : J T X nL (pc + 1) L (aI (x / y) :: st) μ) : J T X nL pc L (aI y :: aI x :: st) μ := by
  obtain ⟨p, l, e, R, s, m, args, below, meth, c, D, ad, cA, A, Post⟩ := X
  obtain ⟨hx, hb, hml, hown, hts, hK, hD, hA, hR, hret, hlocks, hT, hN, had⟩ := hG
  intro H locs ls hP hS hL oL oS oM
  obtain ⟨oy, oS⟩ := List.forall_mem_cons.mp oS
  obtain ⟨ox, oS⟩ := List.forall_mem_cons.mp oS
  have ox : okI x := ox
  have oy : okI y := oy
  have hmn : Int32.minValue.toInt = -2147483648 := by decide
  have hmx : Int32.maxValue.toInt = 2147483647 := by decide
  have hle : x / y ≤ x := Int.ediv_le_self y h0
  have hge : 0 ≤ x / y := Int.ediv_nonneg h0 (by omega)
  have oz : okI (x / y) := ⟨by omega, by have := ox.2; omega⟩
  have k := kk H locs ls hP hS hL oL (List.forall_mem_cons.mpr ⟨oz, oS⟩) oM
  have e : cv ad (aI (x / y)) = .int (Int32.ofInt x / Int32.ofInt y) := by
    show Value.int _ = _
    rw [← Int.tdiv_eq_ediv_of_nonneg h0, Int32.ofInt_tdiv (by omega) (by omega) (by omega) (by omega)]
  rw [List.map_cons, e] at k
  exact lv_idiv hx hb dg (by rw [i32_0, i32_eq oy ok0]; omega) k
theorem J.irem (hG : G T X own cc nL fr lo ret) {x y : Int} (dg : decode cc pc = .ok (.irem, 1)) (h0 : 0 ≤ x) (h1 : 0 < y) (kk : J T X nL (pc + 1) L (aI (x % y) :: st) μ) : J T X nL pc L (aI y :: aI x :: st) μ := by
  obtain ⟨p, l, e, R, s, m, args, below, meth, c, D, ad, cA, A, Post⟩ := X
  obtain ⟨hx, hb, hml, hown, hts, hK, hD, hA, hR, hret, hlocks, hT, hN, had⟩ := hG
  intro H locs ls hP hS hL oL oS oM
  obtain ⟨oy, oS⟩ := List.forall_mem_cons.mp oS
  obtain ⟨ox, oS⟩ := List.forall_mem_cons.mp oS
  have ox : okI x := ox
  have oy : okI y := oy
  have hmn : Int32.minValue.toInt = -2147483648 := by decide
  have hmx : Int32.maxValue.toInt = 2147483647 := by decide
  have hle : x % y < y := Int.emod_lt_of_pos x h1
  have hge : 0 ≤ x % y := Int.emod_nonneg x (by omega)
  have oz : okI (x % y) := ⟨by omega, by have := oy.2; omega⟩
  have k := kk H locs ls hP hS hL oL (List.forall_mem_cons.mpr ⟨oz, oS⟩) oM
  have e : cv ad (aI (x % y)) = .int (Int32.ofInt x - Int32.ofInt x / Int32.ofInt y * Int32.ofInt y) := by
    show Value.int _ = _
    rw [← Int32.ofInt_tdiv (by omega) (by omega) (by omega) (by omega), ← Int32.ofInt_mul, ← Int32.ofInt_sub, Int.tdiv_eq_ediv_of_nonneg h0]
    congr 2
    have := Int.mul_ediv_add_emod x y
    rw [Int.mul_comm] at this
    omega
  rw [List.map_cons, e] at k
  exact lv_irem hx hb dg (by rw [i32_0, i32_eq oy ok0]; omega) k
theorem J.dup (hG : G T X own cc nL fr lo ret) {v : AV} (dg : decode cc pc = .ok (.dup, 1)) (hc : ∀ ad, (cv ad v).category = 1) (kk : J T X nL (pc + 1) L (v :: v :: st) μ) : J T X nL pc L (v :: st) μ := by
  obtain ⟨p, l, e, R, s, m, args, below, meth, c, D, ad, cA, A, Post⟩ := X
  obtain ⟨hx, hb, hml, hown, hts, hK, hD, hA, hR, hret, hlocks, hT, hN, had⟩ := hG
  intro H locs ls hP hS hL oL oS oM
  exact lv_dup hx hb dg (hc ad) (kk H locs ls hP hS hL oL (List.forall_mem_cons.mpr ⟨(List.forall_mem_cons.mp oS).1, oS⟩) oM)
theorem J.pop (hG : G T X own cc nL fr lo ret) {v : AV} (dg : decode cc pc = .ok (.pop, 1)) (hc : ∀ ad, (cv ad v).category = 1) (kk : J T X nL (pc + 1) L (st) μ) : J T X nL pc L (v :: st) μ := by
  obtain ⟨p, l, e, R, s, m, args, below, meth, c, D, ad, cA, A, Post⟩ := X
  obtain ⟨hx, hb, hml, hown, hts, hK, hD, hA, hR, hret, hlocks, hT, hN, had⟩ := hG
  intro H locs ls hP hS hL oL oS oM
  exact lv_pop hx hb dg (hc ad) (kk H locs ls hP hS hL oL (List.forall_mem_cons.mp oS).2 oM)
theorem J.dup2 (hG : G T X own cc nL fr lo ret) {v w : AV} (dg : decode cc pc = .ok (.dup2, 1)) (hc : ∀ ad, (cv ad v).category = 1) (hw : ∀ ad, (cv ad w).category = 1) (kk : J T X nL (pc + 1) L (v :: w :: v :: w :: st) μ) : J T X nL pc L (v :: w :: st) μ := by
  obtain ⟨p, l, e, R, s, m, args, below, meth, c, D, ad, cA, A, Post⟩ := X
  obtain ⟨hx, hb, hml, hown, hts, hK, hD, hA, hR, hret, hlocks, hT, hN, had⟩ := hG
  intro H locs ls hP hS hL oL oS oM
  have o1 := List.forall_mem_cons.mp oS
  have o2 := List.forall_mem_cons.mp o1.2
  exact lv_dup2_11 hx hb dg (hc ad) (hw ad) (kk H locs ls hP hS hL oL (List.forall_mem_cons.mpr ⟨o1.1, List.forall_mem_cons.mpr ⟨o2.1, oS⟩⟩) oM)
theorem J.if_eq (hG : G T X own cc nL fr lo ret) {x : Int} {off : Int} (tgt : Nat) (dg : decode cc pc = .ok (.ifCond .eq off, 3)) (ht : (pc : Int) + off = (tgt : Int)) (kt : x = 0 → J T X nL tgt L st μ) (kf : ¬ x = 0 → J T X nL (pc + 3) L st μ) : J T X nL pc L (aI x :: st) μ := by
  obtain ⟨p, l, e, R, s, m, args, below, meth, c, D, ad, cA, A, Post⟩ := X
  obtain ⟨hx, hb, hml, hown, hts, hK, hD, hA, hR, hret, hlocks, hT, hN, had⟩ := hG
  intro H locs ls hP hS hL oL oS oM
  obtain ⟨ox, oS⟩ := List.forall_mem_cons.mp oS
  exact lv_if_eq hx hb dg ht (fun h => kt ((i32_eq ox ok0).mp h) H locs ls hP hS hL oL oS oM) (fun h => kf (fun q => h ((i32_eq ox ok0).mpr q)) H locs ls hP hS hL oL oS oM)
theorem J.if_ne (hG : G T X own cc nL fr lo ret) {x : Int} {off : Int} (tgt : Nat) (dg : decode cc pc = .ok (.ifCond .ne off, 3)) (ht : (pc : Int) + off = (tgt : Int)) (kt : ¬ x = 0 → J T X nL tgt L st μ) (kf : x = 0 → J T X nL (pc + 3) L st μ) : J T X nL pc L (aI x :: st) μ := by
  obtain ⟨p, l, e, R, s, m, args, below, meth, c, D, ad, cA, A, Post⟩ := X
  obtain ⟨hx, hb, hml, hown, hts, hK, hD, hA, hR, hret, hlocks, hT, hN, had⟩ := hG
  intro H locs ls hP hS hL oL oS oM
  obtain ⟨ox, oS⟩ := List.forall_mem_cons.mp oS
  exact lv_if_ne hx hb dg ht (fun h => kt ((not_congr (i32_eq ox ok0)).mp h) H locs ls hP hS hL oL oS oM) (fun h => kf ((i32_eq ox ok0).mp h) H locs ls hP hS hL oL oS oM)
theorem J.if_lt (hG : G T X own cc nL fr lo ret) {x : Int} {off : Int} (tgt : Nat) (dg : decode cc pc = .ok (.ifCond .lt off, 3)) (ht : (pc : Int) + off = (tgt : Int)) (kt : x < 0 → J T X nL tgt L st μ) (kf : ¬ x < 0 → J T X nL (pc + 3) L st μ) : J T X nL pc L (aI x :: st) μ := by
  obtain ⟨p, l, e, R, s, m, args, below, meth, c, D, ad, cA, A, Post⟩ := X
  obtain ⟨hx, hb, hml, hown, hts, hK, hD, hA, hR, hret, hlocks, hT, hN, had⟩ := hG
  intro H locs ls hP hS hL oL oS oM
  obtain ⟨ox, oS⟩ := List.forall_mem_cons.mp oS
  exact lv_if_lt hx hb dg ht (fun h => kt ((i32_lt ox ok0).mp h) H locs ls hP hS hL oL oS oM) (fun h => kf (fun q => h ((i32_lt ox ok0).mpr q)) H locs ls hP hS hL oL oS oM)
theorem J.if_ge (hG : G T X own cc nL fr lo ret) {x : Int} {off : Int} (tgt : Nat) (dg : decode cc pc = .ok (.ifCond .ge off, 3)) (ht : (pc : Int) + off = (tgt : Int)) (kt : 0 ≤ x → J T X nL tgt L st μ) (kf : ¬ 0 ≤ x → J T X nL (pc + 3) L st μ) : J T X nL pc L (aI x :: st) μ := by
  obtain ⟨p, l, e, R, s, m, args, below, meth, c, D, ad, cA, A, Post⟩ := X
  obtain ⟨hx, hb, hml, hown, hts, hK, hD, hA, hR, hret, hlocks, hT, hN, had⟩ := hG
  intro H locs ls hP hS hL oL oS oM
  obtain ⟨ox, oS⟩ := List.forall_mem_cons.mp oS
  exact lv_if_ge hx hb dg ht (fun h => kt ((i32_le ok0 ox).mp h) H locs ls hP hS hL oL oS oM) (fun h => kf (fun q => h ((i32_le ok0 ox).mpr q)) H locs ls hP hS hL oL oS oM)
theorem J.if_gt (hG : G T X own cc nL fr lo ret) {x : Int} {off : Int} (tgt : Nat) (dg : decode cc pc = .ok (.ifCond .gt off, 3)) (ht : (pc : Int) + off = (tgt : Int)) (kt : 0 < x → J T X nL tgt L st μ) (kf : ¬ 0 < x → J T X nL (pc + 3) L st μ) : J T X nL pc L (aI x :: st) μ := by
  obtain ⟨p, l, e, R, s, m, args, below, meth, c, D, ad, cA, A, Post⟩ := X
  obtain ⟨hx, hb, hml, hown, hts, hK, hD, hA, hR, hret, hlocks, hT, hN, had⟩ := hG
  intro H locs ls hP hS hL oL oS oM
  obtain ⟨ox, oS⟩ := List.forall_mem_cons.mp oS
  exact lv_if_gt hx hb dg ht (fun h => kt ((i32_lt ok0 ox).mp h) H locs ls hP hS hL oL oS oM) (fun h => kf (fun q => h ((i32_lt ok0 ox).mpr q)) H locs ls hP hS hL oL oS oM)
theorem J.if_le (hG : G T X own cc nL fr lo ret) {x : Int} {off : Int} (tgt : Nat) (dg : decode cc pc = .ok (.ifCond .le off, 3)) (ht : (pc : Int) + off = (tgt : Int)) (kt : x ≤ 0 → J T X nL tgt L st μ) (kf : ¬ x ≤ 0 → J T X nL (pc + 3) L st μ) : J T X nL pc L (aI x :: st) μ := by
  obtain ⟨p, l, e, R, s, m, args, below, meth, c, D, ad, cA, A, Post⟩ := X
  obtain ⟨hx, hb, hml, hown, hts, hK, hD, hA, hR, hret, hlocks, hT, hN, had⟩ := hG
  intro H locs ls hP hS hL oL oS oM
  obtain ⟨ox, oS⟩ := List.forall_mem_cons.mp oS
  exact lv_if_le hx hb dg ht (fun h => kt ((i32_le ox ok0).mp h) H locs ls hP hS hL oL oS oM) (fun h => kf (fun q => h ((i32_le ox ok0).mpr q)) H locs ls hP hS hL oL oS oM)
theorem J.icmp_eq (hG : G T X own cc nL fr lo ret) {x y : Int} {off : Int} (tgt : Nat) (dg : decode cc pc = .ok (.if_icmp .eq off, 3)) (ht : (pc : Int) + off = (tgt : Int)) (kt : x = y → J T X nL tgt L st μ) (kf : ¬ x = y → J T X nL (pc + 3) L st μ) : J T X nL pc L (aI y :: aI x :: st) μ := by
  obtain ⟨p, l, e, R, s, m, args, below, meth, c, D, ad, cA, A, Post⟩ := X
  obtain ⟨hx, hb, hml, hown, hts, hK, hD, hA, hR, hret, hlocks, hT, hN, had⟩ := hG
  intro H locs ls hP hS hL oL oS oM
  obtain ⟨oy, oS⟩ := List.forall_mem_cons.mp oS
  obtain ⟨ox, oS⟩ := List.forall_mem_cons.mp oS
  exact lv_icmp_eq hx hb dg ht (fun h => kt ((i32_eq ox oy).mp h) H locs ls hP hS hL oL oS oM) (fun h => kf (fun q => h ((i32_eq ox oy).mpr q)) H locs ls hP hS hL oL oS oM)
theorem J.icmp_ne (hG : G T X own cc nL fr lo ret) {x y : Int} {off : Int} (tgt : Nat) (dg : decode cc pc = .ok (.if_icmp .ne off, 3)) (ht : (pc : Int) + off = (tgt : Int)) (kt : ¬ x = y → J T X nL tgt L st μ) (kf : x = y → J T X nL (pc + 3) L st μ) : J T X nL pc L (aI y :: aI x :: st) μ := by
  obtain ⟨p, l, e, R, s, m, args, below, meth, c, D, ad, cA, A, Post⟩ := X
  obtain ⟨hx, hb, hml, hown, hts, hK, hD, hA, hR, hret, hlocks, hT, hN, had⟩ := hG
  intro H locs ls hP hS hL oL oS oM
  obtain ⟨oy, oS⟩ := List.forall_mem_cons.mp oS
  obtain ⟨ox, oS⟩ := List.forall_mem_cons.mp oS
  exact lv_icmp_ne hx hb dg ht (fun h => kt ((not_congr (i32_eq ox oy)).mp h) H locs ls hP hS hL oL oS oM) (fun h => kf ((i32_eq ox oy).mp h) H locs ls hP hS hL oL oS oM)
theorem J.icmp_lt (hG : G T X own cc nL fr lo ret) {x y : Int} {off : Int} (tgt : Nat) (dg : decode cc pc = .ok (.if_icmp .lt off, 3)) (ht : (pc : Int) + off = (tgt : Int)) (kt : x < y → J T X nL tgt L st μ) (kf : ¬ x < y → J T X nL (pc + 3) L st μ) : J T X nL pc L (aI y :: aI x :: st) μ := by
  obtain ⟨p, l, e, R, s, m, args, below, meth, c, D, ad, cA, A, Post⟩ := X
  obtain ⟨hx, hb, hml, hown, hts, hK, hD, hA, hR, hret, hlocks, hT, hN, had⟩ := hG
  intro H locs ls hP hS hL oL oS oM
  obtain ⟨oy, oS⟩ := List.forall_mem_cons.mp oS
  obtain ⟨ox, oS⟩ := List.forall_mem_cons.mp oS
  exact lv_icmp_lt hx hb dg ht (fun h => kt ((i32_lt ox oy).mp h) H locs ls hP hS hL oL oS oM) (fun h => kf (fun q => h ((i32_lt ox oy).mpr q)) H locs ls hP hS hL oL oS oM)
theorem J.icmp_ge (hG : G T X own cc nL fr lo ret) {x y : Int} {off : Int} (tgt : Nat) (dg : decode cc pc = .ok (.if_icmp .ge off, 3)) (ht : (pc : Int) + off = (tgt : Int)) (kt : y ≤ x → J T X nL tgt L st μ) (kf : ¬ y ≤ x → J T X nL (pc + 3) L st μ) : J T X nL pc L (aI y :: aI x :: st) μ := by
  obtain ⟨p, l, e, R, s, m, args, below, meth, c, D, ad, cA, A, Post⟩ := X
  obtain ⟨hx, hb, hml, hown, hts, hK, hD, hA, hR, hret, hlocks, hT, hN, had⟩ := hG
  intro H locs ls hP hS hL oL oS oM
  obtain ⟨oy, oS⟩ := List.forall_mem_cons.mp oS
  obtain ⟨ox, oS⟩ := List.forall_mem_cons.mp oS
  exact lv_icmp_ge hx hb dg ht (fun h => kt ((i32_le oy ox).mp h) H locs ls hP hS hL oL oS oM) (fun h => kf (fun q => h ((i32_le oy ox).mpr q)) H locs ls hP hS hL oL oS oM)
theorem J.icmp_gt (hG : G T X own cc nL fr lo ret) {x y : Int} {off : Int} (tgt : Nat) (dg : decode cc pc = .ok (.if_icmp .gt off, 3)) (ht : (pc : Int) + off = (tgt : Int)) (kt : y < x → J T X nL tgt L st μ) (kf : ¬ y < x → J T X nL (pc + 3) L st μ) : J T X nL pc L (aI y :: aI x :: st) μ := by
  obtain ⟨p, l, e, R, s, m, args, below, meth, c, D, ad, cA, A, Post⟩ := X
  obtain ⟨hx, hb, hml, hown, hts, hK, hD, hA, hR, hret, hlocks, hT, hN, had⟩ := hG
  intro H locs ls hP hS hL oL oS oM
  obtain ⟨oy, oS⟩ := List.forall_mem_cons.mp oS
  obtain ⟨ox, oS⟩ := List.forall_mem_cons.mp oS
  exact lv_icmp_gt hx hb dg ht (fun h => kt ((i32_lt oy ox).mp h) H locs ls hP hS hL oL oS oM) (fun h => kf (fun q => h ((i32_lt oy ox).mpr q)) H locs ls hP hS hL oL oS oM)
theorem J.icmp_le (hG : G T X own cc nL fr lo ret) {x y : Int} {off : Int} (tgt : Nat) (dg : decode cc pc = .ok (.if_icmp .le off, 3)) (ht : (pc : Int) + off = (tgt : Int)) (kt : x ≤ y → J T X nL tgt L st μ) (kf : ¬ x ≤ y → J T X nL (pc + 3) L st μ) : J T X nL pc L (aI y :: aI x :: st) μ := by
  obtain ⟨p, l, e, R, s, m, args, below, meth, c, D, ad, cA, A, Post⟩ := X
  obtain ⟨hx, hb, hml, hown, hts, hK, hD, hA, hR, hret, hlocks, hT, hN, had⟩ := hG
  intro H locs ls hP hS hL oL oS oM
  obtain ⟨oy, oS⟩ := List.forall_mem_cons.mp oS
  obtain ⟨ox, oS⟩ := List.forall_mem_cons.mp oS
  exact lv_icmp_le hx hb dg ht (fun h => kt ((i32_le ox oy).mp h) H locs ls hP hS hL oL oS oM) (fun h => kf (fun q => h ((i32_le ox oy).mpr q)) H locs ls hP hS hL oL oS oM)
theorem J.goto (hG : G T X own cc nL fr lo ret) {off : Int} (tgt : Nat) (dg : decode cc pc = .ok (.goto off, 3)) (ht : (pc : Int) + off = (tgt : Int)) (kk : J T X nL tgt L st μ) : J T X nL pc L st μ := by
  obtain ⟨p, l, e, R, s, m, args, below, meth, c, D, ad, cA, A, Post⟩ := X
  obtain ⟨hx, hb, hml, hown, hts, hK, hD, hA, hR, hret, hlocks, hT, hN, had⟩ := hG
  intro H locs ls hP hS hL oL oS oM
  exact lv_goto hx hb dg ht (kk H locs ls hP hS hL oL oS oM)
theorem J.tabIn (hG : G T X own cc nL fr lo ret) {dflt lw hi : Int} {offs : Array Int} {len : Nat} {x off : Int} (tgt : Nat) (dg : decode cc pc = .ok (.tableswitch dflt lw hi offs, len)) (h1 : lw ≤ x) (h2 : x ≤ hi) (ho : offs[(x - lw).toNat]? = some off) (ht : (pc : Int) + off = (tgt : Int)) (kk : J T X nL tgt L st μ) : J T X nL pc L (aI x :: st) μ := by
  obtain ⟨p, l, e, R, s, m, args, below, meth, c, D, ad, cA, A, Post⟩ := X
  obtain ⟨hx, hb, hml, hown, hts, hK, hD, hA, hR, hret, hlocks, hT, hN, had⟩ := hG
  intro H locs ls hP hS hL oL oS oM
  obtain ⟨ox, oS⟩ := List.forall_mem_cons.mp oS
  exact lv_tableIn hx hb dg (by rw [toI ox]; omega) (by rw [toI ox]; omega) (by rw [toI ox]; exact ho) ht (kk H locs ls hP hS hL oL oS oM)
theorem J.tabOut (hG : G T X own cc nL fr lo ret) {dflt lw hi : Int} {offs : Array Int} {len : Nat} {x : Int} (tgt : Nat) (dg : decode cc pc = .ok (.tableswitch dflt lw hi offs, len)) (h : x < lw ∨ hi < x) (ht : (pc : Int) + dflt = (tgt : Int)) (kk : J T X nL tgt L st μ) : J T X nL pc L (aI x :: st) μ := by
  obtain ⟨p, l, e, R, s, m, args, below, meth, c, D, ad, cA, A, Post⟩ := X
  obtain ⟨hx, hb, hml, hown, hts, hK, hD, hA, hR, hret, hlocks, hT, hN, had⟩ := hG
  intro H locs ls hP hS hL oL oS oM
  obtain ⟨ox, oS⟩ := List.forall_mem_cons.mp oS
  exact lv_tableOut hx hb dg (by rw [toI ox]; exact h) ht (kk H locs ls hP hS hL oL oS oM)
theorem J.lookup (hG : G T X own cc nL fr lo ret) {dflt : Int} {ps : Array (Int × Int)} {len : Nat} {x off : Int} (tgt : Nat) (dg : decode cc pc = .ok (.lookupswitch dflt ps, len)) (hp : (ps.toList.zip (ps.toList.drop 1)).all (fun (a, next) => a.1 < next.1) = true) (ho : Op.lookupswitch.offset ps.toList dflt x = off) (ht : (pc : Int) + off = (tgt : Int)) (kk : J T X nL tgt L st μ) : J T X nL pc L (aI x :: st) μ := by
  obtain ⟨p, l, e, R, s, m, args, below, meth, c, D, ad, cA, A, Post⟩ := X
  obtain ⟨hx, hb, hml, hown, hts, hK, hD, hA, hR, hret, hlocks, hT, hN, had⟩ := hG
  intro H locs ls hP hS hL oL oS oM
  obtain ⟨ox, oS⟩ := List.forall_mem_cons.mp oS
  exact lv_lookup hx hb dg hp (by rw [toI ox]; exact ho) ht (kk H locs ls hP hS hL oL oS oM)
end JR

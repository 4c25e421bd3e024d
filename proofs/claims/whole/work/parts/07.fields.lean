def CI (ci : Nat) (C : String) (TT : u_T) (N : Nat) (ty : Nat → FieldType) : Prop := vwCl[ci]? = some (C, TT, N) ∧ (∀ w ∈ u_ws C TT N, w ∈ BIG) ∧ (∀ k, k < N → parseFieldDescriptor (TT k).2.2.1 = some (ty k)) ∧ (∀ a, a < N → ∀ b, b < N → a ≠ b → (TT a).2.1 ≠ (TT b).2.1)
theorem ciX0 : CI 0 RX0 TX0 6 tyX0 := ⟨rfl, lay_X0, tyX0_ok, nmX0⟩
theorem ciX1 : CI 1 RX1 TX1 7 tyX1 := ⟨rfl, lay_X1, tyX1_ok, nmX1⟩
theorem ciX2 : CI 2 RX2 TX2 5 tyX2 := ⟨rfl, lay_X2, tyX2_ok, nmX2⟩
theorem ciX3 : CI 3 RX3 TX3 3 tyX3 := ⟨rfl, lay_X3, tyX3_ok, nmX3⟩
theorem ciX4 : CI 4 RX4 TX4 4 tyX4 := ⟨rfl, lay_X4, tyX4_ok, nmX4⟩
theorem ciX5 : CI 5 RX5 TX5 10 tyX5 := ⟨rfl, lay_X5, tyX5_ok, nmX5⟩
theorem ciX6 : CI 6 RX6 TX6 11 tyX6 := ⟨rfl, lay_X6, tyX6_ok, nmX6⟩
theorem ciX7 : CI 7 RX7 TX7 39 tyX7 := ⟨rfl, lay_X7, tyX7_ok, nmX7⟩
theorem up_self (μ : Mem) (c : Nat) (j v : Int) : up μ c j v c j = v := by simp [up]
theorem up_ne (μ : Mem) {c c' : Nat} {j j' v : Int} (h : ¬ (c' = c ∧ j' = j)) : up μ c j v c' j' = μ c' j' := by simp only [up, if_neg h]
theorem up_cell (μ : Mem) {c c' : Nat} (j v : Int) (h : c' ≠ c) : up μ c j v c' = μ c' := by
  funext j'
  exact up_ne μ (fun q => h q.1)
theorem okM_up {μ : Mem} {c : Nat} {j v : Int} (h : okM μ) (hv : okI v) : okM (up μ c j v) := by
  intro c' j' hc
  by_cases q : c' = c ∧ j' = j
  · rw [q.1, q.2, up_self]; exact hv
  · rw [up_ne μ q]; exact h c' j' hc
theorem okM_upL {μ : Mem} {c : Nat} {j v : Int} (h : okM μ) (hc : 1000 ≤ c) : okM (up μ c j v) := by
  intro c' j' hc'
  rw [up_ne μ (fun q => by omega)]
  exact h c' j' hc'
theorem okM_cpy {μ : Mem} {a b : Nat} {n : Int} (h : okM μ) (ha : a < 1000) : okM (cpy μ a b n) := by
  intro c j hc
  unfold cpy
  split
  · exact h a j ha
  · exact h c j hc
theorem cpy_ne (μ : Mem) {a b c : Nat} (n : Int) (h : c ≠ b) : cpy μ a b n c = μ c := by
  funext j
  simp only [cpy, if_neg (fun q : c = b ∧ 0 ≤ j ∧ j < n => h q.1)]
theorem cE_arr (ad : Nat → Nat) (cA : Nat → ClassId) (μ : Mem) (i t n : Nat) (refs : List Nat) (h : t ≠ 2) : cE ad cA μ i (.inr (t, n, refs)) = .inl (cA t, n, .inl (fun j => Int32.ofInt (μ i j))) := by
  simp only [cE, if_neg h]
theorem cE_put (ad : Nat → Nat) (cA : Nat → ClassId) (μ : Mem) {i ci k : Nat} {codes : List Nat} {x : Int} (hi : i < 1000) (hc : codes[k]? = some 0) : (Sum.inr (ci, (codes.mapIdx (fun k code => fV ad μ i k code)).set k (.int (Int32.ofInt x))) : va_E) = cE ad cA (up μ i k x) i (.inl (ci, codes)) := by
  show (Sum.inr (ci, _) : va_E) = Sum.inr (ci, _)
  rw [fset (μ' := up μ i k x) hc (by show Value.int (Int32.ofInt (up μ i k x i k)) = _; rw [up_self]) (fun j code hj => by
    match code with
    | 0 =>
      show Value.int (Int32.ofInt (up μ i k x i j)) = Value.int (Int32.ofInt (μ i j))
      rw [up_ne μ (fun q => hj (by omega))]
    | 1 =>
      show Value.long (Int64.ofInt (up μ i k x (1000 + i) j)) = Value.long (Int64.ofInt (μ (1000 + i) j))
      rw [up_ne μ (fun q => by omega)]
    | z + 2 => rfl)]
theorem cE_putL (ad : Nat → Nat) (cA : Nat → ClassId) (μ : Mem) {i ci k : Nat} {codes : List Nat} {x : Int} (hi : i < 1000) (hc : codes[k]? = some 1) : (Sum.inr (ci, (codes.mapIdx (fun k code => fV ad μ i k code)).set k (.long (Int64.ofInt x))) : va_E) = cE ad cA (up μ (1000 + i) k x) i (.inl (ci, codes)) := by
  show (Sum.inr (ci, _) : va_E) = Sum.inr (ci, _)
  rw [fset (μ' := up μ (1000 + i) k x) hc (by show Value.long (Int64.ofInt (up μ (1000 + i) k x (1000 + i) k)) = _; rw [up_self]) (fun j code hj => by
    match code with
    | 0 =>
      show Value.int (Int32.ofInt (up μ (1000 + i) k x i j)) = Value.int (Int32.ofInt (μ i j))
      rw [up_ne μ (fun q => by omega)]
    | 1 =>
      show Value.long (Int64.ofInt (up μ (1000 + i) k x (1000 + i) j)) = Value.long (Int64.ofInt (μ (1000 + i) j))
      rw [up_ne μ (fun q => hj (by omega))]
    | z + 2 => rfl)]
theorem cE_ast (ad : Nat → Nat) (cA : Nat → ClassId) (μ : Mem) {i t n : Nat} {refs : List Nat} {j x : Int} (ht : t ≠ 2) (oj : okI j) (h0 : 0 ≤ j) : (Sum.inl (cA t, n, .inl (upd (fun j => Int32.ofInt (μ i j)) (Int32.ofInt j).toNatClampNeg (Int32.ofInt x))) : va_E) = cE ad cA (up μ i j x) i (.inr (t, n, refs)) := by
  rw [cE_arr _ _ _ _ _ _ _ ht]
  congr 4
  funext q
  unfold upd
  rw [toNI oj]
  by_cases hq : q = j.toNat
  · rw [if_pos hq, hq, Int.toNat_of_nonneg h0, up_self]
  · rw [if_neg hq, up_ne μ (fun z => hq (by omega))]
theorem cats (ad : Nat → Nat) (st : List AV) : ((st.map (cv ad)).map fun v => v.category).sum ≤ 2 * st.length := by
  induction st with
  | nil => simp
  | cons a l ih =>
    have h : (cv ad a).category ≤ 2 := by rcases lv_cat (cv ad a) with q | q <;> omega
    simp only [List.map_cons, List.sum_cons, List.length_cons]
    omega
theorem cd_max : Cond.code Lib.Math.max.name Lib.Math.max.code 2 (some .int) ∈ BIG := big_in 447 (by decide +kernel) rfl
theorem cd_min : Cond.code Lib.Math.min.name Lib.Math.min.code 2 (some .int) ∈ BIG := big_in 444 (by decide +kernel) rfl
theorem cd_abs : Cond.code Lib.Math.abs.name Lib.Math.abs.code 1 (some .int) ∈ BIG := big_in 631 (by decide +kernel) rfl
theorem nest_tab : nestW.all (fun w => w.onTables) = true := by decide +kernel
theorem nest_warm {s U : State} (hW : s.WarmedH U.vm) (h : ∀ w ∈ nestW, va_Nw w s) : ∀ w ∈ nestW, va_Nw w U := by
  have h2 : ∀ w ∈ nestW, ∃ a i x b, w = Cond.methodLinkNest a i x b := by
    intro w hw
    simp only [nestW, List.mem_cons, List.not_mem_nil, or_false] at hw
    rcases hw with rfl | rfl | rfl | rfl | rfl | rfl | rfl | rfl | rfl | rfl <;> exact ⟨_, _, _, _, rfl⟩
  intro w hw
  obtain ⟨a, i, x, b, rfl⟩ := h2 w hw
  exact va_Nw.warmM hW (h _ hw)
theorem nest_same {s U : State} (hv : s.vm = U.vm) (h : ∀ w ∈ nestW, va_Nw w s) : ∀ w ∈ nestW, va_Nw w U := fun w hw => va_Nw.same (List.all_eq_true.mp nest_tab w hw) hv (h w hw)
section JF
variable {T : List Sh} {X : Cx} {own : String} {cc : ByteArray} {nL fr lo : Nat} {ret : Option FieldType} {pc : Nat} {L : List (Option AV)} {st : List AV} {μ : Mem}
theorem J.getI (hG : G T X own cc nL fr lo ret) {ci : Nat} {C : String} {TT : u_T} {N : Nat} {ty : Nat → FieldType} (hC : CI ci C TT N ty) {i : Nat} {codes : List Nat} (hi : T[i]? = some (.inl (ci, codes))) (k : Nat) (kI : Int) (hkI : (k : Int) = kI) (hk : k < N) (hc : codes[k]? = some (0)) {idx : Nat} (hl : Cond.fieldLink own idx (TT k).1 (TT k).2.1 (TT k).2.2.1 ∈ BIG) (dg : decode cc pc = .ok (.getfield idx, 3)) (kk : J T X nL (pc + 3) L (aI (μ i kI) :: st) μ) : J T X nL pc L (aR i :: st) μ := by
  obtain ⟨p, l, e, R, s, m, args, below, meth, c, D, ad, cA, A, Post⟩ := X
  obtain ⟨hx, hb, hml, hown, hts, hK, hD, hA, hR, hret, hlocks, hT, hN, had⟩ := hG
  intro H locs ls hP hS hL oL oS oM
  subst hkI
  have oi : okI (μ i k) := oM i k (Nat.lt_of_lt_of_le (List.getElem?_eq_some_iff.mp hi).1 hT)
  exact va_get (D := D) (ci := ci) (fs := codes.mapIdx (fun k code => fV ad μ i k code)) (v := .int (Int32.ofInt (μ i k))) hx hb hts hC.2.1 hown hK hP i (wOf_at hi) hC.1 k hk (hts _ hl) (fun _ h => h) (fat hc) dg (kk H locs ls hP hS hL oL (List.forall_mem_cons.mpr ⟨oi, (List.forall_mem_cons.mp oS).2⟩) oM)
theorem J.getL (hG : G T X own cc nL fr lo ret) {ci : Nat} {C : String} {TT : u_T} {N : Nat} {ty : Nat → FieldType} (hC : CI ci C TT N ty) {i : Nat} {codes : List Nat} (hi : T[i]? = some (.inl (ci, codes))) (k : Nat) (kI : Int) (hkI : (k : Int) = kI) (hk : k < N) (cI : Nat) (hcI : 1000 + i = cI) (hc : codes[k]? = some (1)) {idx : Nat} (hl : Cond.fieldLink own idx (TT k).1 (TT k).2.1 (TT k).2.2.1 ∈ BIG) (dg : decode cc pc = .ok (.getfield idx, 3)) (kk : J T X nL (pc + 3) L (aL (μ cI kI) :: st) μ) : J T X nL pc L (aR i :: st) μ := by
  obtain ⟨p, l, e, R, s, m, args, below, meth, c, D, ad, cA, A, Post⟩ := X
  obtain ⟨hx, hb, hml, hown, hts, hK, hD, hA, hR, hret, hlocks, hT, hN, had⟩ := hG
  intro H locs ls hP hS hL oL oS oM
  subst hkI
  subst hcI
  have oi : okI (μ i k) := oM i k (Nat.lt_of_lt_of_le (List.getElem?_eq_some_iff.mp hi).1 hT)
  exact va_get (D := D) (ci := ci) (fs := codes.mapIdx (fun k code => fV ad μ i k code)) (v := .long (Int64.ofInt (μ (1000 + i) k))) hx hb hts hC.2.1 hown hK hP i (wOf_at hi) hC.1 k hk (hts _ hl) (fun _ h => h) (fat hc) dg (kk H locs ls hP hS hL oL (List.forall_mem_cons.mpr ⟨trivial, (List.forall_mem_cons.mp oS).2⟩) oM)
theorem J.getR (hG : G T X own cc nL fr lo ret) {ci : Nat} {C : String} {TT : u_T} {N : Nat} {ty : Nat → FieldType} (hC : CI ci C TT N ty) {i : Nat} {codes : List Nat} (hi : T[i]? = some (.inl (ci, codes))) (k : Nat) (kI : Int) (hkI : (k : Int) = kI) (hk : k < N) {q : Nat} (hc : codes[k]? = some (q + 2)) {idx : Nat} (hl : Cond.fieldLink own idx (TT k).1 (TT k).2.1 (TT k).2.2.1 ∈ BIG) (dg : decode cc pc = .ok (.getfield idx, 3)) (kk : J T X nL (pc + 3) L (aR q :: st) μ) : J T X nL pc L (aR i :: st) μ := by
  obtain ⟨p, l, e, R, s, m, args, below, meth, c, D, ad, cA, A, Post⟩ := X
  obtain ⟨hx, hb, hml, hown, hts, hK, hD, hA, hR, hret, hlocks, hT, hN, had⟩ := hG
  intro H locs ls hP hS hL oL oS oM
  subst hkI
  have oi : okI (μ i k) := oM i k (Nat.lt_of_lt_of_le (List.getElem?_eq_some_iff.mp hi).1 hT)
  exact va_get (D := D) (ci := ci) (fs := codes.mapIdx (fun k code => fV ad μ i k code)) (v := .ref (ad q)) hx hb hts hC.2.1 hown hK hP i (wOf_at hi) hC.1 k hk (hts _ hl) (fun _ h => h) (fat hc) dg (kk H locs ls hP hS hL oL (List.forall_mem_cons.mpr ⟨trivial, (List.forall_mem_cons.mp oS).2⟩) oM)
theorem J.putI (hG : G T X own cc nL fr lo ret) {ci : Nat} {C : String} {TT : u_T} {N : Nat} {ty : Nat → FieldType} (hC : CI ci C TT N ty) {i : Nat} {codes : List Nat} (hi : T[i]? = some (.inl (ci, codes))) (k : Nat) (kI : Int) (hkI : (k : Int) = kI) (hk : k < N) {x : Int} (hc : codes[k]? = some (0)) {idx : Nat} (hl : Cond.fieldLink own idx (TT k).1 (TT k).2.1 (TT k).2.2.1 ∈ BIG) (hfin : (TT k).2.2.2 = false) (hty : ty k = .int) (dg : decode cc pc = .ok (.putfield idx, 3)) (kk : J T X nL (pc + 3) L (st) (up μ i kI x)) : J T X nL pc L (aI x :: aR i :: st) μ := by
  obtain ⟨p, l, e, R, s, m, args, below, meth, c, D, ad, cA, A, Post⟩ := X
  obtain ⟨hx, hb, hml, hown, hts, hK, hD, hA, hR, hret, hlocks, hT, hN, had⟩ := hG
  intro H locs ls hP hS hL oL oS oM
  subst hkI
  obtain ⟨ov, oS⟩ := List.forall_mem_cons.mp oS
  obtain ⟨-, oS⟩ := List.forall_mem_cons.mp oS
  have hil : i < 1000 := Nat.lt_of_lt_of_le (List.getElem?_eq_some_iff.mp hi).1 hT
  refine va_put (D := D) (ci := ci) (fs := codes.mapIdx (fun k code => fV ad μ i k code)) (v := .int (Int32.ofInt x)) (ty := .int) hx hb hts hC.2.1 ty hC.2.2.1 hC.2.2.2 hown hK hP (hD μ) hS i (wOf_at hi) hC.1 k hk (hts _ hl) (fun _ h => h) hfin (by rw [hC.2.2.1 k hk, hty]) rfl rfl (by simpa using (List.getElem?_eq_some_iff.mp hc).1) dg (fun H1 locs1 hP1 hD1 hS1 => ?_)
  rw [wOf_set (μ' := up μ i k x) hT hi (cE_put ad cA μ hil hc) (fun c h1 h2 => ⟨up_cell μ _ _ (by omega), up_cell μ _ _ (by omega)⟩)] at hP1
  exact kk H1 locs1 ls hP1 hS1 hL oL oS (okM_up oM ov)
theorem J.putZ (hG : G T X own cc nL fr lo ret) {ci : Nat} {C : String} {TT : u_T} {N : Nat} {ty : Nat → FieldType} (hC : CI ci C TT N ty) {i : Nat} {codes : List Nat} (hi : T[i]? = some (.inl (ci, codes))) (k : Nat) (kI : Int) (hkI : (k : Int) = kI) (hk : k < N) {x : Int} (hz : x = 0 ∨ x = 1) (hc : codes[k]? = some (0)) {idx : Nat} (hl : Cond.fieldLink own idx (TT k).1 (TT k).2.1 (TT k).2.2.1 ∈ BIG) (hfin : (TT k).2.2.2 = false) (hty : ty k = .boolean) (dg : decode cc pc = .ok (.putfield idx, 3)) (kk : J T X nL (pc + 3) L (st) (up μ i kI x)) : J T X nL pc L (aI x :: aR i :: st) μ := by
  obtain ⟨p, l, e, R, s, m, args, below, meth, c, D, ad, cA, A, Post⟩ := X
  obtain ⟨hx, hb, hml, hown, hts, hK, hD, hA, hR, hret, hlocks, hT, hN, had⟩ := hG
  intro H locs ls hP hS hL oL oS oM
  subst hkI
  obtain ⟨ov, oS⟩ := List.forall_mem_cons.mp oS
  obtain ⟨-, oS⟩ := List.forall_mem_cons.mp oS
  have hil : i < 1000 := Nat.lt_of_lt_of_le (List.getElem?_eq_some_iff.mp hi).1 hT
  refine va_put (D := D) (ci := ci) (fs := codes.mapIdx (fun k code => fV ad μ i k code)) (v := .int (Int32.ofInt x)) (ty := .boolean) hx hb hts hC.2.1 ty hC.2.2.1 hC.2.2.2 hown hK hP (hD μ) hS i (wOf_at hi) hC.1 k hk (hts _ hl) (fun _ h => h) hfin (by rw [hC.2.2.1 k hk, hty]) (by rcases hz with rfl | rfl <;> rfl) (by rcases hz with rfl | rfl <;> rfl) (by simpa using (List.getElem?_eq_some_iff.mp hc).1) dg (fun H1 locs1 hP1 hD1 hS1 => ?_)
  rw [wOf_set (μ' := up μ i k x) hT hi (cE_put ad cA μ hil hc) (fun c h1 h2 => ⟨up_cell μ _ _ (by omega), up_cell μ _ _ (by omega)⟩)] at hP1
  exact kk H1 locs1 ls hP1 hS1 hL oL oS (okM_up oM ov)
theorem J.putL (hG : G T X own cc nL fr lo ret) {ci : Nat} {C : String} {TT : u_T} {N : Nat} {ty : Nat → FieldType} (hC : CI ci C TT N ty) {i : Nat} {codes : List Nat} (hi : T[i]? = some (.inl (ci, codes))) (k : Nat) (kI : Int) (hkI : (k : Int) = kI) (hk : k < N) {x : Int} (cI : Nat) (hcI : 1000 + i = cI) (hc : codes[k]? = some (1)) {idx : Nat} (hl : Cond.fieldLink own idx (TT k).1 (TT k).2.1 (TT k).2.2.1 ∈ BIG) (hfin : (TT k).2.2.2 = false) (hty : ty k = .long) (dg : decode cc pc = .ok (.putfield idx, 3)) (kk : J T X nL (pc + 3) L (st) (up μ cI kI x)) : J T X nL pc L (aL x :: aR i :: st) μ := by
  obtain ⟨p, l, e, R, s, m, args, below, meth, c, D, ad, cA, A, Post⟩ := X
  obtain ⟨hx, hb, hml, hown, hts, hK, hD, hA, hR, hret, hlocks, hT, hN, had⟩ := hG
  intro H locs ls hP hS hL oL oS oM
  subst hkI
  subst hcI
  obtain ⟨ov, oS⟩ := List.forall_mem_cons.mp oS
  obtain ⟨-, oS⟩ := List.forall_mem_cons.mp oS
  have hil : i < 1000 := Nat.lt_of_lt_of_le (List.getElem?_eq_some_iff.mp hi).1 hT
  refine va_put (D := D) (ci := ci) (fs := codes.mapIdx (fun k code => fV ad μ i k code)) (v := .long (Int64.ofInt x)) (ty := .long) hx hb hts hC.2.1 ty hC.2.2.1 hC.2.2.2 hown hK hP (hD μ) hS i (wOf_at hi) hC.1 k hk (hts _ hl) (fun _ h => h) hfin (by rw [hC.2.2.1 k hk, hty]) rfl rfl (by simpa using (List.getElem?_eq_some_iff.mp hc).1) dg (fun H1 locs1 hP1 hD1 hS1 => ?_)
  rw [wOf_set (μ' := up μ (1000 + i) k x) hT hi (cE_putL ad cA μ hil hc) (fun c h1 h2 => ⟨up_cell μ _ _ (by omega), up_cell μ _ _ (by omega)⟩)] at hP1
  exact kk H1 locs1 ls hP1 hS1 hL oL oS (okM_upL oM (by omega))
theorem J.iald (hG : G T X own cc nL fr lo ret) {i n : Nat} {refs : List Nat} (hi : T[i]? = some (.inr (0, n, refs))) {j : Int} (h0 : 0 ≤ j) (h1 : j < n) (dg : decode cc pc = .ok (.iaload, 1)) (kk : J T X nL (pc + 1) L (aI (μ i j) :: st) μ) : J T X nL pc L (aI j :: aR i :: st) μ := by
  obtain ⟨p, l, e, R, s, m, args, below, meth, c, D, ad, cA, A, Post⟩ := X
  obtain ⟨hx, hb, hml, hown, hts, hK, hD, hA, hR, hret, hlocks, hT, hN, had⟩ := hG
  intro H locs ls hP hS hL oL oS oM
  obtain ⟨oj, oS⟩ := List.forall_mem_cons.mp oS
  obtain ⟨-, oS⟩ := List.forall_mem_cons.mp oS
  have oj : okI j := oj
  have k := kk H locs ls hP hS hL oL (List.forall_mem_cons.mpr ⟨(oM i j (Nat.lt_of_lt_of_le (List.getElem?_eq_some_iff.mp hi).1 hT) : okI _), oS⟩) oM
  have e : cv ad (aI (μ i j)) = .int ((fun q : Nat => Int32.ofInt (μ i q)) (Int32.ofInt j).toNatClampNeg) := by
    show Value.int _ = Value.int _
    rw [toNI oj]
    show Value.int _ = Value.int (Int32.ofInt (μ i (j.toNat : Int)))
    rw [Int.toNat_of_nonneg h0]
  rw [List.map_cons, e] at k
  exact va_iald (f := fun q : Nat => Int32.ofInt (μ i q)) hx hb hK hP i 0 (by rw [wOf_at hi, cE_arr _ _ _ _ _ _ _ (by decide)]) rfl (vpin oj h0 h1) dg k
theorem J.zald (hG : G T X own cc nL fr lo ret) {i n : Nat} {refs : List Nat} (hi : T[i]? = some (.inr (1, n, refs))) {j : Int} (h0 : 0 ≤ j) (h1 : j < n) (dg : decode cc pc = .ok (.baload, 1)) (kk : J T X nL (pc + 1) L (aI (μ i j) :: st) μ) : J T X nL pc L (aI j :: aR i :: st) μ := by
  obtain ⟨p, l, e, R, s, m, args, below, meth, c, D, ad, cA, A, Post⟩ := X
  obtain ⟨hx, hb, hml, hown, hts, hK, hD, hA, hR, hret, hlocks, hT, hN, had⟩ := hG
  intro H locs ls hP hS hL oL oS oM
  obtain ⟨oj, oS⟩ := List.forall_mem_cons.mp oS
  obtain ⟨-, oS⟩ := List.forall_mem_cons.mp oS
  have oj : okI j := oj
  have k := kk H locs ls hP hS hL oL (List.forall_mem_cons.mpr ⟨(oM i j (Nat.lt_of_lt_of_le (List.getElem?_eq_some_iff.mp hi).1 hT) : okI _), oS⟩) oM
  have e : cv ad (aI (μ i j)) = .int ((fun q : Nat => Int32.ofInt (μ i q)) (Int32.ofInt j).toNatClampNeg) := by
    show Value.int _ = Value.int _
    rw [toNI oj]
    show Value.int _ = Value.int (Int32.ofInt (μ i (j.toNat : Int)))
    rw [Int.toNat_of_nonneg h0]
  rw [List.map_cons, e] at k
  exact va_zald (f := fun q : Nat => Int32.ofInt (μ i q)) hx hb hK hP i 1 (by rw [wOf_at hi, cE_arr _ _ _ _ _ _ _ (by decide)]) rfl (vpin oj h0 h1) dg k
theorem J.aald (hG : G T X own cc nL fr lo ret) {i n q : Nat} {refs : List Nat} (hi : T[i]? = some (.inr (2, n, refs))) {j : Int} (h0 : 0 ≤ j) (h1 : j < n) (hq : refs[j.toNat]? = some q) (dg : decode cc pc = .ok (.aaload, 1)) (kk : J T X nL (pc + 1) L (aR q :: st) μ) : J T X nL pc L (aI j :: aR i :: st) μ := by
  obtain ⟨p, l, e, R, s, m, args, below, meth, c, D, ad, cA, A, Post⟩ := X
  obtain ⟨hx, hb, hml, hown, hts, hK, hD, hA, hR, hret, hlocks, hT, hN, had⟩ := hG
  intro H locs ls hP hS hL oL oS oM
  obtain ⟨oj, oS⟩ := List.forall_mem_cons.mp oS
  obtain ⟨-, oS⟩ := List.forall_mem_cons.mp oS
  have oj : okI j := oj
  have k := kk H locs ls hP hS hL oL (List.forall_mem_cons.mpr ⟨trivial, oS⟩) oM
  have e : cv ad (aR q) = va_rf ((fun z : Nat => (refs[z]?).map ad) (Int32.ofInt j).toNatClampNeg) := by
    show Value.ref (ad q) = va_rf ((refs[(Int32.ofInt j).toNatClampNeg]?).map ad)
    rw [toNI oj, hq]
    rfl
  rw [List.map_cons, e] at k
  exact va_aldq (C := RX2) (f := fun z : Nat => (refs[z]?).map ad) hx hb hK hP i 2 (by rw [wOf_at hi]; rfl) rfl (vpin oj h0 h1) dg k
theorem J.iast (hG : G T X own cc nL fr lo ret) {i n : Nat} {refs : List Nat} (hi : T[i]? = some (.inr (0, n, refs))) {j x : Int} (h0 : 0 ≤ j) (h1 : j < n) (dg : decode cc pc = .ok (.iastore, 1)) (kk : J T X nL (pc + 1) L (st) (up μ i j x)) : J T X nL pc L (aI x :: aI j :: aR i :: st) μ := by
  obtain ⟨p, l, e, R, s, m, args, below, meth, c, D, ad, cA, A, Post⟩ := X
  obtain ⟨hx, hb, hml, hown, hts, hK, hD, hA, hR, hret, hlocks, hT, hN, had⟩ := hG
  intro H locs ls hP hS hL oL oS oM
  obtain ⟨ov, oS⟩ := List.forall_mem_cons.mp oS
  obtain ⟨oj, oS⟩ := List.forall_mem_cons.mp oS
  obtain ⟨-, oS⟩ := List.forall_mem_cons.mp oS
  have oj : okI j := oj
  have hil : i < 1000 := Nat.lt_of_lt_of_le (List.getElem?_eq_some_iff.mp hi).1 hT
  refine va_iast (f := fun q : Nat => Int32.ofInt (μ i q)) hx hb hK hP (hD μ) hS i 0 (by rw [wOf_at hi, cE_arr _ _ _ _ _ _ _ (by decide)]) rfl (vpin oj h0 h1) dg (fun H1 locs1 hP1 hD1 hS1 => ?_)
  rw [wOf_set (μ' := up μ i j x) hT hi (cE_ast ad cA μ (by decide) oj h0) (fun c h1 h2 => ⟨up_cell μ _ _ (by omega), up_cell μ _ _ (by omega)⟩)] at hP1
  exact kk H1 locs1 ls hP1 hS1 hL oL oS (okM_up oM ov)
theorem J.zast (hG : G T X own cc nL fr lo ret) {i n : Nat} {refs : List Nat} (hi : T[i]? = some (.inr (1, n, refs))) {j x : Int} (h0 : 0 ≤ j) (h1 : j < n) (hz : x = 0 ∨ x = 1) (dg : decode cc pc = .ok (.bastore, 1)) (kk : J T X nL (pc + 1) L (st) (up μ i j x)) : J T X nL pc L (aI x :: aI j :: aR i :: st) μ := by
  obtain ⟨p, l, e, R, s, m, args, below, meth, c, D, ad, cA, A, Post⟩ := X
  obtain ⟨hx, hb, hml, hown, hts, hK, hD, hA, hR, hret, hlocks, hT, hN, had⟩ := hG
  intro H locs ls hP hS hL oL oS oM
  obtain ⟨ov, oS⟩ := List.forall_mem_cons.mp oS
  obtain ⟨oj, oS⟩ := List.forall_mem_cons.mp oS
  obtain ⟨-, oS⟩ := List.forall_mem_cons.mp oS
  have oj : okI j := oj
  have hil : i < 1000 := Nat.lt_of_lt_of_le (List.getElem?_eq_some_iff.mp hi).1 hT
  refine va_zast (f := fun q : Nat => Int32.ofInt (μ i q)) hx hb hK hP (hD μ) hS i 1 (by rw [wOf_at hi, cE_arr _ _ _ _ _ _ _ (by decide)]) rfl (vpin oj h0 h1) dg (fun H1 locs1 hP1 hD1 hS1 => ?_)
  have ez : vp_nar .boolean (Int32.ofInt x) = Int32.ofInt x := by rcases hz with rfl | rfl <;> rfl
  rw [ez] at hP1
  rw [wOf_set (μ' := up μ i j x) hT hi (cE_ast ad cA μ (by decide) oj h0) (fun c h1 h2 => ⟨up_cell μ _ _ (by omega), up_cell μ _ _ (by omega)⟩)] at hP1
  exact kk H1 locs1 ls hP1 hS1 hL oL oS (okM_up oM ov)
theorem J.mmax (hG : G T X own cc nL fr lo ret) {x y : Int} {idx : Nat} (hl : Cond.methodLink own idx Lib.Math.max.name ∈ BIG) (hfr : 1 ≤ fr) (hlo : 2 * st.length + 13 ≤ lo) (dg : decode cc pc = .ok (.invokestatic idx, 3)) (kk : J T X nL (pc + 3) L (aI (max x y) :: st) μ) : J T X nL pc L (aI y :: aI x :: st) μ := by
  obtain ⟨p, l, e, R, s, m, args, below, meth, c, D, ad, cA, A, Post⟩ := X
  obtain ⟨hx, hb, hml, hown, hts, hK, hD, hA, hR, hret, hlocks, hT, hN, had⟩ := hG
  intro H locs ls hP hS hL oL oS oM
  subst hR
  obtain ⟨oy, oS⟩ := List.forall_mem_cons.mp oS
  obtain ⟨ox, oS⟩ := List.forall_mem_cons.mp oS
  have ox : okI x := ox
  have oy : okI y := oy
  have k := kk H locs ls hP hS hL oL (List.forall_mem_cons.mpr ⟨(by omega : okI _), oS⟩) oM
  have e : cv ad (aI (max x y)) = .int (if Int32.ofInt x < Int32.ofInt y then Int32.ofInt y else Int32.ofInt x) := by
    show Value.int _ = _
    by_cases h : x < y
    · rw [if_pos ((i32_lt ox oy).mpr h)]
      congr 2
      omega
    · rw [if_neg (fun q => h ((i32_lt ox oy).mp q))]
      congr 2
      omega
  rw [List.map_cons, e] at k
  exact va_mmax hx hb (hml.trans hL.1.symm) hown (hts _ hl) (hts _ st_J9_max_7cf53) (hts _ ini_J9) (hts _ cd_max) hfr (Nat.le_trans (Nat.add_le_add_right (cats ad st) 13) hlo) (Nat.le_refl _) (Nat.le_refl _) dg k
theorem J.mmin (hG : G T X own cc nL fr lo ret) {x y : Int} {idx : Nat} (hl : Cond.methodLink own idx Lib.Math.min.name ∈ BIG) (hfr : 1 ≤ fr) (hlo : 2 * st.length + 13 ≤ lo) (dg : decode cc pc = .ok (.invokestatic idx, 3)) (kk : J T X nL (pc + 3) L (aI (min x y) :: st) μ) : J T X nL pc L (aI y :: aI x :: st) μ := by
  obtain ⟨p, l, e, R, s, m, args, below, meth, c, D, ad, cA, A, Post⟩ := X
  obtain ⟨hx, hb, hml, hown, hts, hK, hD, hA, hR, hret, hlocks, hT, hN, had⟩ := hG
  intro H locs ls hP hS hL oL oS oM
  subst hR
  obtain ⟨oy, oS⟩ := List.forall_mem_cons.mp oS
  obtain ⟨ox, oS⟩ := List.forall_mem_cons.mp oS
  have ox : okI x := ox
  have oy : okI y := oy
  have k := kk H locs ls hP hS hL oL (List.forall_mem_cons.mpr ⟨(by omega : okI _), oS⟩) oM
  have e : cv ad (aI (min x y)) = .int (if Int32.ofInt y < Int32.ofInt x then Int32.ofInt y else Int32.ofInt x) := by
    show Value.int _ = _
    by_cases h : y < x
    · rw [if_pos ((i32_lt oy ox).mpr h)]
      congr 2
      omega
    · rw [if_neg (fun q => h ((i32_lt oy ox).mp q))]
      congr 2
      omega
  rw [List.map_cons, e] at k
  exact va_mmin hx hb (hml.trans hL.1.symm) hown (hts _ hl) (hts _ st_J9_min_7cf53) (hts _ ini_J9) (hts _ cd_min) hfr (Nat.le_trans (Nat.add_le_add_right (cats ad st) 13) hlo) (Nat.le_refl _) (Nat.le_refl _) dg k
theorem J.mabs (hG : G T X own cc nL fr lo ret) {x : Int} {idx : Nat} (hl : Cond.methodLink own idx Lib.Math.abs.name ∈ BIG) (hm : -2147483648 < x) (hfr : 1 ≤ fr) (hlo : 2 * st.length + 13 ≤ lo) (dg : decode cc pc = .ok (.invokestatic idx, 3)) (kk : J T X nL (pc + 3) L (aI (if 0 ≤ x then x else 0 - x) :: st) μ) : J T X nL pc L (aI x :: st) μ := by
  obtain ⟨p, l, e, R, s, m, args, below, meth, c, D, ad, cA, A, Post⟩ := X
  obtain ⟨hx, hb, hml, hown, hts, hK, hD, hA, hR, hret, hlocks, hT, hN, had⟩ := hG
  intro H locs ls hP hS hL oL oS oM
  subst hR
  obtain ⟨ox, oS⟩ := List.forall_mem_cons.mp oS
  have ox : okI x := ox
  have k := kk H locs ls hP hS hL oL (List.forall_mem_cons.mpr ⟨(by split <;> omega : okI _), oS⟩) oM
  have e : cv ad (aI (if 0 ≤ x then x else 0 - x)) = .int (if 0 ≤ Int32.ofInt x then Int32.ofInt x else 0 - Int32.ofInt x) := by
    show Value.int _ = _
    have h9 : (0 : Int32) ≤ Int32.ofInt x ↔ 0 ≤ x := by rw [i32_0, i32_le ok0 ox]
    by_cases h : 0 ≤ x
    · rw [if_pos h, if_pos (h9.mpr h)]
    · rw [if_neg h, if_neg (fun q => h (h9.mp q)), Int32.ofInt_sub]
      rfl
  rw [List.map_cons, e] at k
  exact va_mabs hx hb (hml.trans hL.1.symm) hown (hts _ hl) (hts _ st_J9_abs_0f7a4) (hts _ ini_J9) (hts _ cd_abs) hfr (Nat.le_trans (Nat.add_le_add_right (cats ad st) 13) hlo) (Nat.le_refl _) (Nat.le_refl _) dg k
theorem J.copy (hG : G T X own cc nL fr lo ret) {a b na nb : Nat} {ra rb : List Nat} {n : Int} (ha : T[a]? = some (.inr (0, na, ra))) (hbb : T[b]? = some (.inr (0, nb, rb))) (h0 : 0 ≤ n) (h1 : n ≤ na) (h2 : n ≤ nb) {idx : Nat} (hl : Cond.methodLink own idx arraycopyName ∈ BIG) (hfr : 1 ≤ fr) (hlo : 2 * st.length + 18 ≤ lo) (dg : decode cc pc = .ok (.invokestatic idx, 3)) (kk : J T X nL (pc + 3) L (st) (cpy μ a b n)) : J T X nL pc L (aI n :: aI 0 :: aR b :: aI 0 :: aR a :: st) μ := by
  obtain ⟨p, l, e, R, s, m, args, below, meth, c, D, ad, cA, A, Post⟩ := X
  obtain ⟨hx, hb, hml, hown, hts, hK, hD, hA, hR, hret, hlocks, hT, hN, had⟩ := hG
  intro H locs ls hP hS hL oL oS oM
  subst hR
  obtain ⟨on, oS⟩ := List.forall_mem_cons.mp oS
  obtain ⟨-, oS⟩ := List.forall_mem_cons.mp oS
  obtain ⟨-, oS⟩ := List.forall_mem_cons.mp oS
  obtain ⟨-, oS⟩ := List.forall_mem_cons.mp oS
  obtain ⟨-, oS⟩ := List.forall_mem_cons.mp oS
  have on : okI n := on
  have hal : a < 1000 := Nat.lt_of_lt_of_le (List.getElem?_eq_some_iff.mp ha).1 hT
  have e0 : (Int32.ofInt 0).toNatClampNeg = 0 := rfl
  have nn : (Int32.ofInt n).toNatClampNeg = n.toNat := toNI on
  refine va_copyi (f := fun q : Nat => Int32.ofInt (μ a q)) (g := fun q : Nat => Int32.ofInt (μ b q)) hx hb (hml.trans hL.1.symm) hown (hts _ hl) (hts _ nat_arraycopy) (hts _ st_arraycopy) (hts _ ini_J10) hK hP (hD μ) hS a b 0 0 (by rw [wOf_at ha, cE_arr _ _ _ _ _ _ _ (by decide)]) (by rw [wOf_at hbb, cE_arr _ _ _ _ _ _ _ (by decide)]) rfl rfl rfl (sp := Int32.ofInt 0) (dp := Int32.ofInt 0) (n := Int32.ofInt n) (by decide) (by decide) (by rw [i32_0, i32_lt on ok0]; omega) (by rw [e0, nn]; omega) (by rw [e0, nn]; omega) (fun i _ => rfl) hfr (Nat.le_trans (Nat.add_le_add_right (cats ad st) 18) hlo) dg (fun H1 locs1 hP1 hD1 hS1 => ?_)
  have he : (Sum.inl (cA 0, nb, .inl (va_cpy (fun q : Nat => Int32.ofInt (μ a q)) (fun q : Nat => Int32.ofInt (μ b q)) (Int32.ofInt 0).toNatClampNeg (Int32.ofInt 0).toNatClampNeg (Int32.ofInt n).toNatClampNeg)) : va_E) = cE ad cA (cpy μ a b n) b (.inr (0, nb, rb)) := by
    rw [cE_arr _ _ _ _ _ _ _ (by decide), e0, nn]
    congr 4
    funext q
    unfold va_cpy
    by_cases hq : q < n.toNat
    · rw [if_pos ⟨Nat.zero_le _, by omega⟩]
      show Int32.ofInt (μ a ((0 + (q - 0) : Nat) : Int)) = _
      have : cpy μ a b n b q = μ a q := by unfold cpy; exact if_pos ⟨rfl, by omega, by omega⟩
      rw [this, Nat.zero_add, Nat.sub_zero]
    · rw [if_neg (fun z => hq (by omega))]
      have : cpy μ a b n b q = μ b q := by unfold cpy; exact if_neg (fun z => hq (by omega))
      rw [this]
  have hbl : b < 1000 := Nat.lt_of_lt_of_le (List.getElem?_eq_some_iff.mp hbb).1 hT
  rw [wOf_set (μ' := cpy μ a b n) hT hbb he (fun c h1 h2 => ⟨cpy_ne μ n h1, cpy_ne μ n (by omega)⟩)] at hP1
  exact kk H1 locs1 ls hP1 hS1 hL oL oS (okM_cpy oM hal)
theorem J.iret (hG : G T X own cc nL fr lo (some .int)) {x : Int} (dg : decode cc pc = .ok (.ireturn, 1)) (hp : PostX X (some (aI x)) μ) : J T X nL pc L [aI x] μ := by
  obtain ⟨p, l, e, R, s, m, args, below, meth, c, D, ad, cA, A, Post⟩ := X
  obtain ⟨hx, hb, hml, hown, hts, hK, hD, hA, hR, hret, hlocks, hT, hN, had⟩ := hG
  intro H locs ls hP hS hL oL oS oM
  exact W.iret (v := Int32.ofInt x) hx hb hret (fun t ht hW => ⟨⟨(some (aI x)), μ, rfl, hp, (fun v hv => by cases hv; exact (List.forall_mem_cons.mp oS).1), oM, by rw [ht]; exact hP⟩, hS.F ht⟩) hS.2.2 dg (hlocks := hlocks)
theorem J.zret (hG : G T X own cc nL fr lo (some .boolean)) {x : Int} (hz : x = 0 ∨ x = 1) (dg : decode cc pc = .ok (.ireturn, 1)) (hp : PostX X (some (aI x)) μ) : J T X nL pc L [aI x] μ := by
  obtain ⟨p, l, e, R, s, m, args, below, meth, c, D, ad, cA, A, Post⟩ := X
  obtain ⟨hx, hb, hml, hown, hts, hK, hD, hA, hR, hret, hlocks, hT, hN, had⟩ := hG
  intro H locs ls hP hS hL oL oS oM
  exact W.zret (v := Int32.ofInt x) hx hb hret (by rcases hz with rfl | rfl <;> rfl) (fun t ht hW => ⟨⟨(some (aI x)), μ, rfl, hp, (fun v hv => by cases hv; exact (List.forall_mem_cons.mp oS).1), oM, by rw [ht]; exact hP⟩, hS.F ht⟩) hS.2.2 dg (hlocks := hlocks)
theorem J.lret (hG : G T X own cc nL fr lo (some .long)) {x : Int} (dg : decode cc pc = .ok (.lreturn, 1)) (hp : PostX X (some (aL x)) μ) : J T X nL pc L [aL x] μ := by
  obtain ⟨p, l, e, R, s, m, args, below, meth, c, D, ad, cA, A, Post⟩ := X
  obtain ⟨hx, hb, hml, hown, hts, hK, hD, hA, hR, hret, hlocks, hT, hN, had⟩ := hG
  intro H locs ls hP hS hL oL oS oM
  exact W.lret (v := Int64.ofInt x) hx hb hret (fun t ht hW => ⟨⟨(some (aL x)), μ, rfl, hp, (fun v hv => by cases hv; trivial), oM, by rw [ht]; exact hP⟩, hS.F ht⟩) hS.2.2 dg (hlocks := hlocks)
theorem J.vret (hG : G T X own cc nL fr lo (none)) (dg : decode cc pc = .ok (.return_, 1)) (hp : PostX X none μ) : J T X nL pc L [] μ := by
  obtain ⟨p, l, e, R, s, m, args, below, meth, c, D, ad, cA, A, Post⟩ := X
  obtain ⟨hx, hb, hml, hown, hts, hK, hD, hA, hR, hret, hlocks, hT, hN, had⟩ := hG
  intro H locs ls hP hS hL oL oS oM
  exact W.vret hx hb hret (fun t ht hW => ⟨⟨none, μ, rfl, hp, (fun v hv => by cases hv), oM, by rw [ht]; exact hP⟩, hS.F ht⟩) hS.2.2 dg (hlocks := hlocks)
end JF
abbrev Md : Type := MethodName × ByteArray × Nat × Option FieldType × Nat × Nat
def wsOf (d : Md) : List Cond := Cond.code d.1 d.2.1 d.2.2.1 d.2.2.2.1 :: BIG
def rmOf (d : Md) : Room := { frames := d.2.2.2.2.1, cells := 0, slots := 0, locals := d.2.2.2.2.2 }
def AA (T : List Sh) (ad : Nat → Nat) (sz : Nat) : Nat → Prop := fun q => (∃ k, k < T.length ∧ q = ad k) ∨ sz ≤ q
def CPre (T : List Sh) (D : va_G) (ad : Nat → Nat) (cA : Nat → ClassId) (sz : Nat) (μ : Mem) : State → Prop := fun U => U.heap.size = sz ∧ va_P D vwCl (wOf T ad cA μ) U.heap ∧ va_K D vwCl (tysOf cA) U ∧ ∀ w ∈ nestW, va_Nw w U
/-- A METHOD'S CONTRACT in numbers: from these arguments and this memory it returns, and Post says with what and with which memory -/
def CT (T : List Sh) (d : Md) (as : List AV) (μ : Mem) (Post : Option AV → Mem → Prop) : Prop :=
  (∀ v ∈ as, okV v) → okM μ → ∀ (l : Launch) (D : va_G) (ad : Nat → Nat) (cA : Nat → ClassId) (sz : Nat), (∀ i j, i < T.length → j < T.length → ad i = ad j → i = j) → Met l d.1 (wsOf d) (rmOf d) (va_Pc (as.map (cv ad)) (CPre T D ad cA sz μ)) (QC T ad cA D (AA T ad sz) Post) 0 0 (AA T ad sz)
theorem wOf_D {T : List Sh} {ad : Nat → Nat} {cA : Nat → ClassId} {A : Nat → Prop} (had : ∀ i j, i < T.length → j < T.length → ad i = ad j → i = j) (hA : ∀ k, k < T.length → A (ad k)) (μ : Mem) : va_D A (wOf T ad cA μ) := by
  have at' : ∀ (k : Nat) (q : Nat × va_E), (wOf T ad cA μ)[k]? = some q → k < T.length ∧ q.1 = ad k := by
    intro k q hq
    have hl : k < T.length := by simpa [wOf] using (List.getElem?_eq_some_iff.mp hq).1
    rw [wOf_at (List.getElem?_eq_getElem hl)] at hq
    cases hq
    exact ⟨hl, rfl⟩
  refine ⟨fun i j p q hi hj hpq => ?_, fun k q hk => ?_⟩
  · obtain ⟨h1, h2⟩ := at' i p hi
    obtain ⟨h3, h4⟩ := at' j q hj
    exact had i j h1 h3 (by rw [← h2, ← h4]; exact hpq)
  · obtain ⟨h1, h2⟩ := at' k q hk
    rw [h2]
    exact hA k h1
theorem lg_nolong (vs : List Value) (h : ∀ v ∈ vs, v.category = 1) : (lg_sl vs).length = vs.length := by
  induction vs with
  | nil => rfl
  | cons a l ih =>
    have h1 := h a List.mem_cons_self
    have h2 := ih (fun v hv => h v (List.mem_cons_of_mem _ hv))
    simp only [lg_sl, List.flatMap_cons, List.length_append, List.length_cons] at h2 ⊢
    rw [if_neg (by omega), h2]
    simp only [List.length_cons, List.length_nil]
    omega
theorem lv_args_at (vs : List Value) (h : ∀ v ∈ vs, v.category = 1) : ∀ (k i : Nat) (v : Value), vs[i]? = some v → (k + i, v) ∈ lv_args k vs := by
  induction vs with
  | nil => intro k i v hv; simp at hv
  | cons a l ih =>
    intro k i v hv
    have h1 := h a List.mem_cons_self
    simp only [lv_args, if_neg (show ¬ a.category = 2 by omega)]
    cases i with
    | zero =>
      rw [List.getElem?_cons_zero] at hv
      cases hv
      exact List.mem_cons_self
    | succ i =>
      rw [List.getElem?_cons_succ] at hv
      have := ih (fun v hv => h v (List.mem_cons_of_mem _ hv)) (k + 1) i v hv
      rw [show k + 1 + i = k + (i + 1) by omega] at this
      exact List.mem_cons_of_mem _ this
def noLong (v : AV) : Bool := match v with
  | .inr (.inr _) => false
  | _ => true
theorem noLong_cat {ad : Nat → Nat} {as : List AV} (h : as.all noLong = true) : ∀ v ∈ as.map (cv ad), v.category = 1 := by
  intro v hv
  obtain ⟨a, ha, rfl⟩ := List.mem_map.mp hv
  have h1 := List.all_eq_true.mp h a ha
  match a, h1 with
  | .inl x, _ => rfl
  | .inr (.inl i), _ => rfl
theorem CT.of {T : List Sh} {d : Md} {as : List AV} {μ : Mem} {Post : Option AV → Mem → Prop} (hT : T.length ≤ 1000) (hy : plainName d.1.cls = true) (has : as.all noLong = true) (hlen : as.length ≤ d.2.2.1)
    (h : ∀ X, G T X d.1.cls d.2.1 d.2.2.1 d.2.2.2.2.1 d.2.2.2.2.2 d.2.2.2.1 → PostX X = Post → J T X d.2.2.1 0 (as.map some ++ List.replicate (d.2.2.1 - as.length) none) [] μ) : CT T d as μ Post := by
  intro oas oM l D ad cA sz had
  obtain ⟨y, cc, n, ret, fr, lo⟩ := d
  refine Met.ofW (cc := cc) (maxL := n) (ret := ret) hy rfl ?_
  intro p e s m args below meth c s₁ B hml hv
  obtain ⟨rfl, hsz, hP, hK, hN⟩ := hv
  have hts := atoms_spec (ws := wsOf (y, cc, n, ret, fr, lo)) B.pre
  subst hsz
  have g : G T (p, l, e, ({ frames := fr, cells := 0, slots := 0, locals := lo } : Room), s, m, (as.map (cv ad)).toArray, below, meth, c, D, ad, cA, AA T ad s.heap.size, Post) y.cls cc n fr lo ret := ⟨B.exec, B.bytes, hml, findClass_of_methodNamed B.named, fun w hw => hts w (List.mem_cons_of_mem _ hw), hK, wOf_D had (fun k hk => Or.inl ⟨k, hk, rfl⟩), fun q hq => Or.inr hq, rfl, B.returns, B.notSynchronized, hT, hN, had⟩
  have k := h _ g rfl
  have hc := noLong_cat (ad := ad) has
  have hl := lv_entry (as.map (cv ad)) (n := n) (by rw [lg_nolong _ hc]; simpa using hlen)
  rw [lg_entry_eq]
  refine k s.heap [] _ hP va_S.rf ⟨hl.1, hl.2.1, fun i v hv => ?_⟩ (fun v hv => ?_) (fun v hv => by cases hv) oM
  · have hv' : as[i]? = some v := by
      by_cases hi : i < as.length
      · rw [List.getElem?_append_left (by simpa using hi), List.getElem?_map] at hv
        cases ha : as[i]? with
        | none => rw [ha] at hv; cases hv
        | some w => rw [ha] at hv; cases hv; rfl
      · rw [List.getElem?_append_right (by simpa using hi), List.getElem?_replicate] at hv
        split at hv <;> cases hv
    have hm : (as.map (cv ad))[i]? = some (cv ad v) := by rw [List.getElem?_map, hv']; rfl
    have := lv_args_at _ hc 0 i _ hm
    rw [Nat.zero_add] at this
    exact ⟨hl.2.2 _ this, hc _ (List.mem_of_getElem? hm)⟩
  · rcases List.mem_append.mp hv with h1 | h1
    · obtain ⟨w, hw, hw2⟩ := List.mem_map.mp h1
      cases hw2
      exact oas v hw
    · have := (List.mem_replicate.mp h1).2
      cases this
/-- what a caller needs of the method itself -/
def OkV (d : Md) (n : Nat) : Prop := Cond.code d.1 d.2.1 d.2.2.1 d.2.2.2.1 ∈ BIG ∧ Cond.initialized d.1.cls ∈ BIG ∧ (Cond.instanceMethod d.1 ∈ BIG ∧ Cond.selects d.1.cls d.1 d.1 ∈ BIG) ∧ (d.1.cls ≠ "java/lang/invoke/MethodHandle" ∧ d.1.cls ≠ "java/lang/invoke/VarHandle") ∧ (parseMethodDescriptor d.1.desc).map (fun d => d.parameters.length) = some n
def OkS (d : Md) (n : Nat) : Prop := Cond.code d.1 d.2.1 d.2.2.1 d.2.2.2.1 ∈ BIG ∧ Cond.initialized d.1.cls ∈ BIG ∧ Cond.static d.1 ∈ BIG ∧ (d.1.cls ≠ "java/lang/invoke/MethodHandle" ∧ d.1.cls ≠ "java/lang/invoke/VarHandle") ∧ (parseMethodDescriptor d.1.desc).map (fun d => d.parameters.length) = some n
theorem wsOf_good {d : Md} (h : Cond.code d.1 d.2.1 d.2.2.1 d.2.2.2.1 ∈ BIG) : GoodIn BIG (wsOf d) := by
  intro w hw
  rcases List.mem_cons.mp hw with h1 | h1
  · rw [h1]; exact ⟨h, good_of_word (big_good h)⟩
  · exact ⟨h1, good_of_word (big_good h1)⟩
theorem CPre_blind {T : List Sh} {D : va_G} {ad : Nat → Nat} {cA : Nat → ClassId} {sz : Nat} {μ : Mem} {av : List Value} : FrameBlind (va_Pc av (CPre T D ad cA sz μ)) := fun a U g mk q => by
  obtain ⟨q0, q1, qP, qK, qN⟩ := q
  exact ⟨q0, q1, qP, va_K.moved (u := U) (U := U.calling g mk a) (Vm.Alike.refl U.vm) qK, nest_same (s := U) (U := U.calling g mk a) rfl qN⟩
theorem AA_sub {T : List Sh} {ad : Nat → Nat} {cA : Nat → ClassId} {A : Nat → Prop} {s0 sz : Nat} {μ : Mem} (hD : va_D A (wOf T ad cA μ)) (hA : ∀ q, s0 ≤ q → A q) (hs : s0 ≤ sz) : ∀ q, AA T ad sz q → A q := by
  intro q h
  rcases h with ⟨k, hk, rfl⟩ | h
  · exact hD.2 k _ (wOf_at (List.getElem?_eq_getElem hk))
  · exact hA q (Nat.le_trans hs h)
section JC
variable {T : List Sh} {X : Cx} {own : String} {cc : ByteArray} {nL fr lo : Nat} {ret : Option FieldType} {pc : Nat} {L : List (Option AV)} {st rest : List AV} {μ : Mem} {d : Md} {n idx : Nat} {as : List AV} {P : Option AV → Mem → Prop}
theorem J.callV (hG : G T X own cc nL fr lo ret) {i ci : Nat} {codes : List Nat} {q : vw_C} (hc : CT T d (aR i :: as) μ P) (ok : OkV d n) (hl : Cond.methodLink own idx d.1 ∈ BIG) (hi : T[i]? = some (.inl (ci, codes))) (hq : vwCl[ci]? = some q) (hqc : q.1 = d.1.cls) (hn : as.length = n) (hrest : rest.length ≤ 4) (hroom : d.2.2.2.2.1 + 1 ≤ fr ∧ 8 + (d.2.2.1 + 11) + d.2.2.2.2.2 ≤ lo) (dg : decode cc pc = .ok (.invokevirtual idx, 3)) (hst : st = as.reverse ++ aR i :: rest) (kk : ∀ r μ', P r μ' → J T X nL (pc + 3) L (r.toList ++ rest) μ') : J T X nL pc L st μ := by
  obtain ⟨p, l, e, R, s, m, args, below, meth, c, D, ad, cA, A, Post⟩ := X
  obtain ⟨hx, hb, hml, hown, hts, hK, hD, hA, hR, hret, hlocks, hT, hN, had⟩ := hG
  subst hR
  subst hst
  intro H locs ls hP hS hL oL oS oM
  have oas : ∀ v ∈ aR i :: as, okV v := fun v hv => oS v (by simp only [List.mem_append, List.mem_cons, List.mem_reverse] at hv ⊢; rcases hv with h | h; exact Or.inr (Or.inl h); exact Or.inl h)
  have orest : ∀ v ∈ rest, okV v := fun v hv => oS v (by simp only [List.mem_append, List.mem_cons]; exact Or.inr (Or.inr hv))
  have hM := hc oas oM l D ad cA H.size had
  have cw : CallW ({ frames := fr, cells := 0, slots := 0, locals := lo } : Room) s args own d.1.cls idx d.1 d.2.1 d.2.2.1 d.2.2.2.1 (wsOf d) (rmOf d) 0 0 n := ⟨callB_of (ret := d.2.2.2.1) (mc := 0) (ms := 0) n hts (wsOf_good ok.1) rfl rfl rfl (hts _ ok.2.1) (hts _ hl) ⟨ok.2.2.2.1.1, ok.2.2.2.1.2, ok.2.2.2.2⟩ hroom, hts _ ok.2.2.1.1, hts _ ok.2.2.1.2⟩
  have hp : PreV s H d.1.cls (ad i) (va_Pc ((aR i :: as).map (cv ad)) (CPre T D ad cA H.size μ)) (as.map (cv ad)) := ⟨CPre_blind, by rw [← hqc]; exact va_recv hK hP hq (wOf_at hi), fun U hU hW => ⟨rfl, by rw [hU], by rw [hU]; exact hP, va_K.moved hW.alike hK, nest_warm hW hN⟩⟩
  have run := va_runV (As := as.map (cv ad)) (rest := rest.map (cv ad)) (cells := 0) (slots := 0) (H := H) (locs := locs) (below := below) (meth := meth) (e := e) (g := F0 m pc ls ((as.reverse ++ aR i :: rest).map (cv ad))) ⟨hx, hb, hml, hown, hts⟩ hM cw hp rfl (by rw [List.length_map]; exact hn) hL.1 (by simp [cv]) (lv_room (Nat.le_trans (cats ad rest) (by omega))) dg ⟨Nat.le_refl _, Nat.le_refl _⟩
  intro T0 hT0 X0
  obtain ⟨v, st₀, t, T', Lk, h0, X', hLk, e1, e2, ⟨⟨r, μ', hv, hp', okr, oM', hP'⟩, hz, hk⟩, stp⟩ := run T0 hT0 X0
  cases hv
  rw [h0] at hz hk
  have hsub := AA_sub (sz := H.size) (hD μ) hA hS.1
  have k := kk r μ' hp' T'.heap (locs ++ Lk) ls (by rw [e1]; exact hP') ⟨Nat.le_trans hS.1 (by rw [e1]; exact hz), fun q h1 h2 => by rw [e1, hk q (Nat.lt_of_lt_of_le h1 hS.1) (fun z => h2 (hsub q z))]; exact hS.2.1 q h1 h2, fun q hq => by
      rcases List.mem_append.mp hq with h | h
      · exact hS.2.2 q h
      · exact hsub _ (hLk q h)⟩ hL oL (fun v hv => by
      rcases List.mem_append.mp hv with h | h
      · exact okr v (Option.mem_toList.mp h)
      · exact orest v h) oM'
  have e3 : (r.toList ++ rest).map (cv ad) = (r.map (cv ad)).toList ++ rest.map (cv ad) := by cases r <;> rfl
  rw [e3] at k
  obtain ⟨t2, a1, b1⟩ := k T' rfl X'
  exact ⟨t2, stp t2 a1, b1⟩
theorem J.callS (hG : G T X own cc nL fr lo ret) (hc : CT T d (as) μ P) (ok : OkS d n) (hl : Cond.methodLink own idx d.1 ∈ BIG) (hn : as.length = n) (hrest : rest.length ≤ 4) (hroom : d.2.2.2.2.1 + 1 ≤ fr ∧ 8 + (d.2.2.1 + 11) + d.2.2.2.2.2 ≤ lo) (dg : decode cc pc = .ok (.invokestatic idx, 3)) (hst : st = as.reverse ++ rest) (kk : ∀ r μ', P r μ' → J T X nL (pc + 3) L (r.toList ++ rest) μ') : J T X nL pc L st μ := by
  obtain ⟨p, l, e, R, s, m, args, below, meth, c, D, ad, cA, A, Post⟩ := X
  obtain ⟨hx, hb, hml, hown, hts, hK, hD, hA, hR, hret, hlocks, hT, hN, had⟩ := hG
  subst hR
  subst hst
  intro H locs ls hP hS hL oL oS oM
  have oas : ∀ v ∈ as, okV v := fun v hv => oS v (by simp only [List.mem_append, List.mem_cons, List.mem_reverse] at hv ⊢; exact Or.inl hv)
  have orest : ∀ v ∈ rest, okV v := fun v hv => oS v (by simp only [List.mem_append, List.mem_cons]; exact Or.inr hv)
  have hM := hc oas oM l D ad cA H.size had
  have cw : CallB ({ frames := fr, cells := 0, slots := 0, locals := lo } : Room) s args own idx d.1 d.2.1 d.2.2.1 d.2.2.2.1 (wsOf d) (rmOf d) 0 0 n ∧ (Cond.static d.1).before args s = true := ⟨callB_of (ret := d.2.2.2.1) (mc := 0) (ms := 0) n hts (wsOf_good ok.1) rfl rfl rfl (hts _ ok.2.1) (hts _ hl) ⟨ok.2.2.2.1.1, ok.2.2.2.1.2, ok.2.2.2.2⟩ hroom, hts _ ok.2.2.1⟩
  have hp : PreS s H (va_Pc (as.map (cv ad)) (CPre T D ad cA H.size μ)) (as.map (cv ad)) := ⟨CPre_blind, fun U hU hW => ⟨rfl, by rw [hU], by rw [hU]; exact hP, va_K.moved hW.alike hK, nest_warm hW hN⟩⟩
  have run := va_runS (As := as.map (cv ad)) (rest := rest.map (cv ad)) (cells := 0) (slots := 0) (H := H) (locs := locs) (below := below) (meth := meth) (e := e) (g := F0 m pc ls ((as.reverse ++ rest).map (cv ad))) ⟨hx, hb, hml, hown, hts⟩ hM cw hp rfl (by rw [List.length_map]; exact hn) hL.1 (by simp) (lv_room (Nat.le_trans (cats ad rest) (by omega))) dg ⟨Nat.le_refl _, Nat.le_refl _⟩
  intro T0 hT0 X0
  obtain ⟨v, st₀, t, T', Lk, h0, X', hLk, e1, e2, ⟨⟨r, μ', hv, hp', okr, oM', hP'⟩, hz, hk⟩, stp⟩ := run T0 hT0 X0
  cases hv
  rw [h0] at hz hk
  have hsub := AA_sub (sz := H.size) (hD μ) hA hS.1
  have k := kk r μ' hp' T'.heap (locs ++ Lk) ls (by rw [e1]; exact hP') ⟨Nat.le_trans hS.1 (by rw [e1]; exact hz), fun q h1 h2 => by rw [e1, hk q (Nat.lt_of_lt_of_le h1 hS.1) (fun z => h2 (hsub q z))]; exact hS.2.1 q h1 h2, fun q hq => by
      rcases List.mem_append.mp hq with h | h
      · exact hS.2.2 q h
      · exact hsub _ (hLk q h)⟩ hL oL (fun v hv => by
      rcases List.mem_append.mp hv with h | h
      · exact okr v (Option.mem_toList.mp h)
      · exact orest v h) oM'
  have e3 : (r.toList ++ rest).map (cv ad) = (r.map (cv ad)).toList ++ rest.map (cv ad) := by cases r <;> rfl
  rw [e3] at k
  obtain ⟨t2, a1, b1⟩ := k T' rfl X'
  exact ⟨t2, stp t2 a1, b1⟩
theorem J.callSN (hG : G T X own cc nL fr lo ret) (hc : CT T d (as) μ P) (ok : OkS d n) (hl : Cond.methodLinkNest own idx d.1 RX6 ∈ nestW) (hn : as.length = n) (hrest : rest.length ≤ 4) (hroom : d.2.2.2.2.1 + 1 ≤ fr ∧ 8 + (d.2.2.1 + 11) + d.2.2.2.2.2 ≤ lo) (dg : decode cc pc = .ok (.invokestatic idx, 3)) (hst : st = as.reverse ++ rest) (kk : ∀ r μ', P r μ' → J T X nL (pc + 3) L (r.toList ++ rest) μ') : J T X nL pc L st μ := by
  obtain ⟨p, l, e, R, s, m, args, below, meth, c, D, ad, cA, A, Post⟩ := X
  obtain ⟨hx, hb, hml, hown, hts, hK, hD, hA, hR, hret, hlocks, hT, hN, had⟩ := hG
  subst hR
  subst hst
  intro H locs ls hP hS hL oL oS oM
  have oas : ∀ v ∈ as, okV v := fun v hv => oS v (by simp only [List.mem_append, List.mem_cons, List.mem_reverse] at hv ⊢; exact Or.inl hv)
  have orest : ∀ v ∈ rest, okV v := fun v hv => oS v (by simp only [List.mem_append, List.mem_cons]; exact Or.inr hv)
  have hM := hc oas oM l D ad cA H.size had
  have cw : va_CN ({ frames := fr, cells := 0, slots := 0, locals := lo } : Room) s args own idx d.1 RX6 d.2.1 d.2.2.1 d.2.2.2.1 (wsOf d) (rmOf d) 0 0 n ∧ (Cond.static d.1).before args s = true ∧ True := ⟨va_cnB (ret := d.2.2.2.1) (mc := 0) (ms := 0) n hts (wsOf_good ok.1) rfl rfl rfl (hN _ hl) (hts _ ok.2.1) ⟨ok.2.2.2.1.1, ok.2.2.2.1.2, ok.2.2.2.2⟩ hroom, hts _ ok.2.2.1, trivial⟩
  have hp : PreS s H (va_Pc (as.map (cv ad)) (CPre T D ad cA H.size μ)) (as.map (cv ad)) := ⟨CPre_blind, fun U hU hW => ⟨rfl, by rw [hU], by rw [hU]; exact hP, va_K.moved hW.alike hK, nest_warm hW hN⟩⟩
  have run := va_runSN (As := as.map (cv ad)) (rest := rest.map (cv ad)) (cells := 0) (slots := 0) (H := H) (locs := locs) (below := below) (meth := meth) (e := e) (g := F0 m pc ls ((as.reverse ++ rest).map (cv ad))) ⟨hx, hb, hml, hown, hts⟩ hM cw hp rfl (by rw [List.length_map]; exact hn) hL.1 (by simp) (lv_room (Nat.le_trans (cats ad rest) (by omega))) dg ⟨Nat.le_refl _, Nat.le_refl _⟩
  intro T0 hT0 X0
  obtain ⟨v, st₀, t, T', Lk, h0, X', hLk, e1, e2, ⟨⟨r, μ', hv, hp', okr, oM', hP'⟩, hz, hk⟩, stp⟩ := run T0 hT0 X0
  cases hv
  rw [h0] at hz hk
  have hsub := AA_sub (sz := H.size) (hD μ) hA hS.1
  have k := kk r μ' hp' T'.heap (locs ++ Lk) ls (by rw [e1]; exact hP') ⟨Nat.le_trans hS.1 (by rw [e1]; exact hz), fun q h1 h2 => by rw [e1, hk q (Nat.lt_of_lt_of_le h1 hS.1) (fun z => h2 (hsub q z))]; exact hS.2.1 q h1 h2, fun q hq => by
      rcases List.mem_append.mp hq with h | h
      · exact hS.2.2 q h
      · exact hsub _ (hLk q h)⟩ hL oL (fun v hv => by
      rcases List.mem_append.mp hv with h | h
      · exact okr v (Option.mem_toList.mp h)
      · exact orest v h) oM'
  have e3 : (r.toList ++ rest).map (cv ad) = (r.map (cv ad)).toList ++ rest.map (cv ad) := by cases r <;> rfl
  rw [e3] at k
  obtain ⟨t2, a1, b1⟩ := k T' rfl X'
  exact ⟨t2, stp t2 a1, b1⟩
end JC

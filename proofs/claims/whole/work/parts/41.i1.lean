/-! worlds that grow: constructors, and the law's own steps -/
theorem im_obj : Cond.instanceMethod Lib.objectInit ∈ BIG := big_in 95 (by decide +kernel) rfl
theorem cd_obj : Cond.code Lib.objectInit ⟨#[0xb1]⟩ 1 none ∈ BIG := big_in 96 (by decide +kernel) rfl
theorem ao_X2 : Cond.arrayOver (.object RX2) ∈ lw_tbl := List.mem_of_getElem? (i := 221) (by decide +kernel)
theorem ws_cons {a : Nat × va_E} {l : va_W} {k : Nat} {q : Nat × va_E} (h : l[k]? = some q) : (a :: l)[k + 1]? = some q := by simpa using h
theorem ws_last {ws : va_W} {x : Nat × va_E} : (ws ++ [x])[ws.length]? = some x := by simp
theorem ws_left {ws w2 : va_W} {k : Nat} {q : Nat × va_E} (h : ws[k]? = some q) : (ws ++ w2)[k]? = some q := by
  rw [List.getElem?_append_left (List.getElem?_eq_some_iff.mp h).1]
  exact h
theorem ws_mid {A B : va_W} {x : Nat × va_E} : (A ++ x :: B)[A.length]? = some x := by simp
theorem ws_mid2 {A B : va_W} {x q : Nat × va_E} {k : Nat} (h : B[k]? = some q) : (A ++ x :: B)[A.length + 1 + k]? = some q := by
  rw [List.getElem?_append_right (by omega)]
  rw [show A.length + 1 + k - A.length = k + 1 by omega]
  exact ws_cons h
theorem ws_set {A B : va_W} {x y : Nat × va_E} : (A ++ x :: B).set A.length y = A ++ y :: B := by
  simp
theorem va_P.lft {D : va_G} {cl : List vw_C} {w1 w2 : va_W} {H : Heap} (h : va_P D cl (w1 ++ w2) H) : va_P D cl w1 H := fun k q hk => h k q (ws_left hk)
theorem va_P.rgt {D : va_G} {cl : List vw_C} {w1 w2 : va_W} {H : Heap} (h : va_P D cl (w1 ++ w2) H) : va_P D cl w2 H := fun k q hk => h (w1.length + k) q (by rw [List.getElem?_append_right (by omega), show w1.length + k - w1.length = k by omega]; exact hk)
theorem va_D.lft {A : Nat → Prop} {w1 w2 : va_W} (h : va_D A (w1 ++ w2)) : va_D A w1 := ⟨fun i j p q hi hj e => h.1 i j p q (ws_left hi) (ws_left hj) e, fun k q hk => h.2 k q (ws_left hk)⟩
theorem va_D.rgt {A : Nat → Prop} {w1 w2 : va_W} (h : va_D A (w1 ++ w2)) : va_D A w2 := by
  have g : ∀ (k : Nat) (q : Nat × va_E), w2[k]? = some q → (w1 ++ w2)[w1.length + k]? = some q := fun k q hk => by rw [List.getElem?_append_right (by omega), show w1.length + k - w1.length = k by omega]; exact hk
  exact ⟨fun i j p q hi hj e => by have := h.1 _ _ p q (g i p hi) (g j q hj) e; omega, fun k q hk => h.2 _ q (g k q hk)⟩
theorem va_D.cross {A : Nat → Prop} {w1 w2 : va_W} (h : va_D A (w1 ++ w2)) {i j : Nat} {p q : Nat × va_E} (hi : w1[i]? = some p) (hj : w2[j]? = some q) : p.1 ≠ q.1 := by
  intro e
  have h1 := ws_left (w2 := w2) hi
  have h2 : (w1 ++ w2)[w1.length + j]? = some q := by rw [List.getElem?_append_right (by omega), show w1.length + j - w1.length = j by omega]; exact hj
  have := h.1 _ _ p q h1 h2 e
  have := (List.getElem?_eq_some_iff.mp hi).1
  omega
theorem va_D.comm {A : Nat → Prop} {w1 w2 : va_W} (h : va_D A (w1 ++ w2)) : va_D A (w2 ++ w1) := va_D.app h.rgt h.lft (fun i j p q hi hj e => h.cross hj hi e.symm)
theorem va_P.comm {D : va_G} {cl : List vw_C} {w1 w2 : va_W} {H : Heap} (h : va_P D cl (w1 ++ w2) H) : va_P D cl (w2 ++ w1) H := va_P.app h.rgt h.lft
/-- behind a call on the cells wc: the others stay, beside what the call left -/
theorem va_joinR {A0 : Nat → Prop} {D : va_G} {cl : List vw_C} {wr wc w1 : va_W} {H H1 : Heap} {B : Nat → Prop} (hP : va_P D cl (wr ++ wc) H) (hD : va_D A0 (wr ++ wc)) (hB : ∀ q, B q → (∃ (k : Nat) (x : Nat × va_E), wc[k]? = some x ∧ q = x.1) ∨ H.size ≤ q) (hBA : ∀ q, B q → A0 q)
    (hk : ∀ q : Nat, q < H.size → ¬ B q → H1[q]? = H[q]?) (hP1 : va_P D cl w1 H1) (hD1 : va_D B w1) : va_P D cl (wr ++ w1) H1 ∧ va_D A0 (wr ++ w1) := by
  have apart : ∀ (k : Nat) (q : Nat × va_E), wr[k]? = some q → q.1 < H.size ∧ ¬ B q.1 := by
    intro k q hq
    have hl := (hP.lft k q hq).lt
    refine ⟨hl, fun h => ?_⟩
    rcases hB _ h with ⟨j, x, hx, e⟩ | h
    · exact hD.cross hq hx e
    · omega
  refine ⟨va_P.app (fun k q hq => ?_) hP1, va_D.app hD.lft (hD1.weaken (fun k q _ h => hBA q.1 h)) (fun i j x y hx hy hxy => ?_)⟩
  · obtain ⟨g1, g2⟩ := apart k q hq
    exact (hP.lft k q hq).kept (hk q.1 g1 g2)
  · exact (apart i x hx).2 (by rw [hxy]; exact hD1.2 j y hy)
theorem catsV (st : List Value) : (st.map fun v => v.category).sum ≤ 2 * st.length := by
  induction st with
  | nil => simp
  | cons a l ih =>
    have h : a.category ≤ 2 := by rcases lv_cat a with q | q <;> omega
    simp only [List.map_cons, List.sum_cons, List.length_cons]
    omega
abbrev CxI : Type := Program × Launch × Env × Room × State × MethodId × Array Value × List Frame × Method × Code × va_G × (Nat → ClassId) × (Nat → Prop) × (State → Prop)
def cAX (X : CxI) : Nat → ClassId := X.2.2.2.2.2.2.2.2.2.2.2.1
def isInit (X : CxI) : Prop := X.2.2.2.2.2.2.2.2.1.name = "<init>"
def JI (X : CxI) (nL : Nat) (pc : Nat) (L : List (Nat × Value)) (st : List Value) (ws : va_W) (nc ns : Nat) : Prop := match X with
  | (p, l, e, R, s, m, args, below, meth, c, D, _, A, Q) => ∀ (H : Heap) (locs : List Loc) (ls : Array Slot), va_P D vwCl ws H → va_D A ws → va_S A s.heap H locs → lv_has ls nL L → W p l e R s m args below meth c H locs nc ns Q (F0 m pc ls st)
def GI (X : CxI) (own : String) (cc : ByteArray) (nL fr mc ms lo : Nat) : Prop := match X with
  | (p, _, _, R, s, m, args, _, meth, c, D, cA, A, _) => p.tables.exec = Jvm.exec ∧ c.code = cc ∧ c.maxLocals = nL ∧ s.vm.findClass own = some m.cls ∧ (∀ w ∈ BIG, w.before args s = true) ∧ va_K D vwCl (tysOf cA) s ∧ (∀ q, s.heap.size ≤ q → A q) ∧ R = ({ frames := fr, cells := mc, slots := ms, locals := lo } : Room) ∧ meth.locks = false ∧ (∀ w ∈ nestW, va_Nw w s) ∧ va_AO RX2 s
section JIR
variable {X : CxI} {own : String} {cc : ByteArray} {nL fr mc ms lo nc ns : Nat} {pc : Nat} {L L' : List (Nat × Value)} {st : List Value} {ws : va_W}
theorem JI.eqw {ws' : va_W} (h : ws = ws') (kk : JI X nL pc L st ws' nc ns) : JI X nL pc L st ws nc ns := h ▸ kk
theorem JI.aload_n (hG : GI X own cc nL fr mc ms lo) {k : Fin 4} {a : Nat} (j i : Nat) (dg : decode cc pc = .ok (.aload_n k, 1)) (hi : (k : Nat) = i) (hl : L[j]? = some (i, .ref a)) (kk : JI X nL (pc + 1) L (.ref a :: st) (ws) nc ns) : JI X nL pc L (st) (ws) nc ns := by
  obtain ⟨p, l, e, R, s, m, args, below, meth, c, D, cA, A, Q⟩ := X
  obtain ⟨hx, hb, hml, hown, hts, hK, hA, hR, hlocks, hNw, hAO⟩ := hG
  intro H locs ls hP hD hS hL
  exact lv_aload_n hx hb dg hi (lv_at hL j hl) (kk H locs ls hP hD hS hL)
theorem JI.iload_n (hG : GI X own cc nL fr mc ms lo) {k : Fin 4} {a : Int32} (j i : Nat) (dg : decode cc pc = .ok (.iload_n k, 1)) (hi : (k : Nat) = i) (hl : L[j]? = some (i, .int a)) (kk : JI X nL (pc + 1) L (.int a :: st) (ws) nc ns) : JI X nL pc L (st) (ws) nc ns := by
  obtain ⟨p, l, e, R, s, m, args, below, meth, c, D, cA, A, Q⟩ := X
  obtain ⟨hx, hb, hml, hown, hts, hK, hA, hR, hlocks, hNw, hAO⟩ := hG
  intro H locs ls hP hD hS hL
  exact lv_iload_n hx hb dg hi (lv_at hL j hl) (kk H locs ls hP hD hS hL)
theorem JI.istore_n (hG : GI X own cc nL fr mc ms lo) {k : Fin 4} {a : Int32} (i : Nat) (dg : decode cc pc = .ok (.istore_n k, 1)) (hi : (k : Nat) = i) (hn : i < nL) (hl : (i, Value.int a) :: L.filter (fun q => !(q.1 == i) && !(q.1 + 1 == i && q.2.category == 2)) = L') (kk : JI X nL (pc + 1) L' (st) (ws) nc ns) : JI X nL pc L (.int a :: st) (ws) nc ns := by
  obtain ⟨p, l, e, R, s, m, args, below, meth, c, D, cA, A, Q⟩ := X
  obtain ⟨hx, hb, hml, hown, hts, hK, hA, hR, hlocks, hNw, hAO⟩ := hG
  intro H locs ls hP hD hS hL
  exact lv_istore_n hx hb dg hi hL hn hl (fun ls1 hl1 => kk H locs ls1 hP hD hS hl1)
theorem JI.astore_n (hG : GI X own cc nL fr mc ms lo) {k : Fin 4} {a : Nat} (i : Nat) (dg : decode cc pc = .ok (.astore_n k, 1)) (hi : (k : Nat) = i) (hn : i < nL) (hl : (i, Value.ref a) :: L.filter (fun q => !(q.1 == i) && !(q.1 + 1 == i && q.2.category == 2)) = L') (kk : JI X nL (pc + 1) L' (st) (ws) nc ns) : JI X nL pc L (.ref a :: st) (ws) nc ns := by
  obtain ⟨p, l, e, R, s, m, args, below, meth, c, D, cA, A, Q⟩ := X
  obtain ⟨hx, hb, hml, hown, hts, hK, hA, hR, hlocks, hNw, hAO⟩ := hG
  intro H locs ls hP hD hS hL
  exact lv_astore_n hx hb dg hi hL hn hl (fun ls1 hl1 => kk H locs ls1 hP hD hS hl1)
theorem JI.iinc (hG : GI X own cc nL fr mc ms lo) {n : Int} {x v : Int32} (j i : Nat) (dg : decode cc pc = .ok (.iinc i n, 3)) (hk : L[j]? = some (i, .int x)) (hv : x + Int32.ofInt n = v) (hn : i < nL) (hl : (i, Value.int v) :: L.filter (fun q => !(q.1 == i) && !(q.1 + 1 == i && q.2.category == 2)) = L') (kk : JI X nL (pc + 3) L' (st) (ws) nc ns) : JI X nL pc L (st) (ws) nc ns := by
  obtain ⟨p, l, e, R, s, m, args, below, meth, c, D, cA, A, Q⟩ := X
  obtain ⟨hx, hb, hml, hown, hts, hK, hA, hR, hlocks, hNw, hAO⟩ := hG
  intro H locs ls hP hD hS hL
  exact lv_iinc hx hb dg hL hk hv hn hl (fun ls1 hl1 => kk H locs ls1 hP hD hS hl1)
theorem JI.iconst (hG : GI X own cc nL fr mc ms lo) {n : Int} (v : Int32) (dg : decode cc pc = .ok (.iconst n, 1)) (hv : Int32.ofInt n = v) (kk : JI X nL (pc + 1) L (.int v :: st) (ws) nc ns) : JI X nL pc L (st) (ws) nc ns := by
  obtain ⟨p, l, e, R, s, m, args, below, meth, c, D, cA, A, Q⟩ := X
  obtain ⟨hx, hb, hml, hown, hts, hK, hA, hR, hlocks, hNw, hAO⟩ := hG
  intro H locs ls hP hD hS hL
  exact lv_iconst hx hb dg hv (kk H locs ls hP hD hS hL)
theorem JI.bipush (hG : GI X own cc nL fr mc ms lo) {n : Int} (v : Int32) (dg : decode cc pc = .ok (.bipush n, 2)) (hv : (Int8.ofInt n).toInt32 = v) (kk : JI X nL (pc + 2) L (.int v :: st) (ws) nc ns) : JI X nL pc L (st) (ws) nc ns := by
  obtain ⟨p, l, e, R, s, m, args, below, meth, c, D, cA, A, Q⟩ := X
  obtain ⟨hx, hb, hml, hown, hts, hK, hA, hR, hlocks, hNw, hAO⟩ := hG
  intro H locs ls hP hD hS hL
  exact lv_bipush hx hb dg hv (kk H locs ls hP hD hS hL)
theorem JI.sipush (hG : GI X own cc nL fr mc ms lo) {n : Int} (v : Int32) (dg : decode cc pc = .ok (.sipush n, 3)) (hv : (Int16.ofInt n).toInt32 = v) (kk : JI X nL (pc + 3) L (.int v :: st) (ws) nc ns) : JI X nL pc L (st) (ws) nc ns := by
  obtain ⟨p, l, e, R, s, m, args, below, meth, c, D, cA, A, Q⟩ := X
  obtain ⟨hx, hb, hml, hown, hts, hK, hA, hR, hlocks, hNw, hAO⟩ := hG
  intro H locs ls hP hD hS hL
  exact lv_sipush hx hb dg hv (kk H locs ls hP hD hS hL)
theorem JI.lconst (hG : GI X own cc nL fr mc ms lo) {n : Fin 2} (v : Int64) (dg : decode cc pc = .ok (.lconst n, 1)) (hv : Int64.ofNat (n : Nat) = v) (kk : JI X nL (pc + 1) L (.long v :: st) (ws) nc ns) : JI X nL pc L (st) (ws) nc ns := by
  obtain ⟨p, l, e, R, s, m, args, below, meth, c, D, cA, A, Q⟩ := X
  obtain ⟨hx, hb, hml, hown, hts, hK, hA, hR, hlocks, hNw, hAO⟩ := hG
  intro H locs ls hP hD hS hL
  exact lv_lconst hx hb dg hv (kk H locs ls hP hD hS hL)
theorem JI.dup (hG : GI X own cc nL fr mc ms lo) {a : Nat} (dg : decode cc pc = .ok (.dup, 1)) (kk : JI X nL (pc + 1) L (.ref a :: .ref a :: st) (ws) nc ns) : JI X nL pc L (.ref a :: st) (ws) nc ns := by
  obtain ⟨p, l, e, R, s, m, args, below, meth, c, D, cA, A, Q⟩ := X
  obtain ⟨hx, hb, hml, hown, hts, hK, hA, hR, hlocks, hNw, hAO⟩ := hG
  intro H locs ls hP hD hS hL
  exact lv_dup hx hb dg rfl (kk H locs ls hP hD hS hL)
theorem JI.objInit (hG : GI X own cc nL fr mc ms lo) {a idx : Nat} (hl : Cond.methodLink own idx Lib.objectInit ∈ BIG) (hst : st.length ≤ 4) (hfr : 1 ≤ fr) (hlo : 20 ≤ lo) (dg : decode cc pc = .ok (.invokespecial idx, 3)) (kk : JI X nL (pc + 3) L (st) (ws) nc ns) : JI X nL pc L (.ref a :: st) (ws) nc ns := by
  obtain ⟨p, l, e, R, s, m, args, below, meth, c, D, cA, A, Q⟩ := X
  obtain ⟨hx, hb, hml, hown, hts, hK, hA, hR, hlocks, hNw, hAO⟩ := hG
  intro H locs ls hP hD hS hL
  subst hR
  refine W.objInit hx hb hown (hts _ hl) (hts _ im_obj) (hts _ cd_obj) rfl (by rw [hml]; exact hL.1) rfl dg hfr ?_ ?_
  · have h1 := catsV st
    have h2 := lv_room (m := m) (pc := pc) (ls := ls) (rest := .ref a :: st) (st := st) (by omega)
    show 2 * (F0 m pc ls (.ref a :: st)).monitorRoom + _ + 12 ≤ lo
    omega
  · exact W.eq (g2 := F0 m (pc + 3) ls st) rfl (kk H locs ls hP hD hS hL)
theorem JI.put (hG : GI X own cc nL fr mc ms lo) {ci : Nat} {C : String} {TT : u_T} {N : Nat} {ty : Nat → FieldType} (hC : CI ci C TT N ty) {h0 : Nat} {fs : List Value} {tl : va_W} (k : Nat) (hk : k < N) {idx : Nat} (hl : Cond.fieldLink own idx (TT k).1 (TT k).2.1 (TT k).2.2.1 ∈ BIG) {v : Value} (hfin : (TT k).2.2.2 = false) (hn : narrow (ty k) v = v) (hfit : fits (ty k) v = true) (hlen : k < fs.length) {fs2 : List Value} (hset : fs.set k v = fs2) (dg : decode cc pc = .ok (.putfield idx, 3)) (kk : JI X nL (pc + 3) L (st) ((h0, .inr (ci, fs2)) :: tl) nc ns) : JI X nL pc L (v :: .ref h0 :: st) ((h0, .inr (ci, fs)) :: tl) nc ns := by
  obtain ⟨p, l, e, R, s, m, args, below, meth, c, D, cA, A, Q⟩ := X
  obtain ⟨hx, hb, hml, hown, hts, hK, hA, hR, hlocks, hNw, hAO⟩ := hG
  intro H locs ls hP hD hS hL
  subst hset
  exact va_put (D := D) (ci := ci) (fs := fs) (v := v) (ty := ty k) hx hb hts hC.2.1 ty hC.2.2.1 hC.2.2.2 hown hK hP hD hS 0 rfl hC.1 k hk (hts _ hl) (fun _ h => h) hfin (hC.2.2.1 k hk) hn hfit hlen dg (fun H1 locs1 hP1 hD1 hS1 => kk H1 locs1 ls hP1 hD1 hS1 hL)
theorem JI.putF (hG : GI X own cc nL fr mc ms lo) (hin : isInit X) {ci : Nat} {C : String} {TT : u_T} {N : Nat} {ty : Nat → FieldType} (hC : CI ci C TT N ty) {h0 : Nat} {fs : List Value} {tl : va_W} (k : Nat) (hk : k < N) {idx : Nat} (hl : Cond.fieldLink own idx (TT k).1 (TT k).2.1 (TT k).2.2.1 ∈ BIG) {v : Value} (hfin : (TT k).2.2.2 = true) (hd : (TT k).1 = own) (hn : narrow (ty k) v = v) (hfit : fits (ty k) v = true) (hlen : k < fs.length) {fs2 : List Value} (hset : fs.set k v = fs2) (dg : decode cc pc = .ok (.putfield idx, 3)) (kk : JI X nL (pc + 3) L (st) ((h0, .inr (ci, fs2)) :: tl) nc ns) : JI X nL pc L (v :: .ref h0 :: st) ((h0, .inr (ci, fs)) :: tl) nc ns := by
  obtain ⟨p, l, e, R, s, m, args, below, meth, c, D, cA, A, Q⟩ := X
  obtain ⟨hx, hb, hml, hown, hts, hK, hA, hR, hlocks, hNw, hAO⟩ := hG
  intro H locs ls hP hD hS hL
  subst hset
  exact va_putF (D := D) (ci := ci) (fs := fs) (v := v) (ty := ty k) hx hb hts hC.2.1 ty hC.2.2.1 hC.2.2.2 hown hK hP hD hS 0 rfl hC.1 k hk (hts _ hl) (fun _ h => h) hfin hin hd (hC.2.2.1 k hk) hn hfit hlen dg (fun H1 locs1 hP1 hD1 hS1 => kk H1 locs1 ls hP1 hD1 hS1 hL)
theorem JI.getR (hG : GI X own cc nL fr mc ms lo) {ci : Nat} {C : String} {TT : u_T} {N : Nat} {ty : Nat → FieldType} (hC : CI ci C TT N ty) {h0 : Nat} {fs : List Value} {tl : va_W} (k : Nat) (hk : k < N) {idx : Nat} (hl : Cond.fieldLink own idx (TT k).1 (TT k).2.1 (TT k).2.2.1 ∈ BIG) {q : Nat} (hq : fs[k]? = some (.ref q)) (dg : decode cc pc = .ok (.getfield idx, 3)) (kk : JI X nL (pc + 3) L (.ref q :: st) ((h0, .inr (ci, fs)) :: tl) nc ns) : JI X nL pc L (.ref h0 :: st) ((h0, .inr (ci, fs)) :: tl) nc ns := by
  obtain ⟨p, l, e, R, s, m, args, below, meth, c, D, cA, A, Q⟩ := X
  obtain ⟨hx, hb, hml, hown, hts, hK, hA, hR, hlocks, hNw, hAO⟩ := hG
  intro H locs ls hP hD hS hL
  exact va_get (D := D) (ci := ci) (fs := fs) (v := .ref q) hx hb hts hC.2.1 hown hK hP 0 rfl hC.1 k hk (hts _ hl) (fun _ h => h) hq dg (kk H locs ls hP hD hS hL)
theorem JI.new (hG : GI X own cc nL fr mc ms lo) {ci : Nat} {C : String} {TT : u_T} {N : Nat} {ty : Nat → FieldType} (hC : CI ci C TT N ty) {fs : List Value} {idx : Nat} (hcl : Cond.classLink own idx C ∈ BIG) (hin : Cond.instantiable C N ∈ BIG) (hini : Cond.initialized C ∈ BIG) (hfs : ∀ j, j < N → defaultValue (ty j) = vp_V fs j) (hc : nc + 1 ≤ mc) (hs : ns + N ≤ ms) (dg : decode cc pc = .ok (.new idx, 3)) (kk : ∀ q : Nat, JI X nL (pc + 3) L (.ref q :: st) (ws ++ [(q, .inr (ci, fs))]) (nc + 1) (ns + N)) : JI X nL pc L st ws nc ns := by
  obtain ⟨p, l, e, R, s, m, args, below, meth, c, D, cA, A, Q⟩ := X
  obtain ⟨hx, hb, hml, hown, hts, hK, hA, hR, hlocks, hNw, hAO⟩ := hG
  intro H locs ls hP hD hS hL
  subst hR
  exact va_new (ci := ci) (fs := fs) hx hb hts hC.2.1 ty hC.2.2.1 hown (hts _ hcl) (hts _ hin) (hts _ hini) hK hP hD hS hA hC.1 hfs hc hs dg (fun q H1 hP1 hD1 hS1 => kk q H1 locs ls hP1 hD1 hS1 hL)
theorem JI.newI (hG : GI X own cc nL fr mc ms lo) {n : Int32} {N : Nat} (hn : ¬ n < 0) (hN : n.toNatClampNeg = N) (hbytes : N * componentBytes .int ≤ 536870912) (hc : nc + 1 ≤ mc) (hs : ns + N ≤ ms) (dg : decode cc pc = .ok (.newarray .int, 2)) (kk : ∀ q : Nat, JI X nL (pc + 2) L (.ref q :: st) (ws ++ [(q, .inl (cAX X 0, N, .inl (fun _ => 0)))]) (nc + 1) (ns + N)) : JI X nL pc L (.int n :: st) ws nc ns := by
  obtain ⟨p, l, e, R, s, m, args, below, meth, c, D, cA, A, Q⟩ := X
  obtain ⟨hx, hb, hml, hown, hts, hK, hA, hR, hlocks, hNw, hAO⟩ := hG
  intro H locs ls hP hD hS hL
  subst hR
  refine va_newa (atype := .int) (ty := .int) (N' := N) (a0 := (N, .inl (fun _ => 0))) hx hb (hts _ ac_int) rfl hK hP hD hS hA (fun cA => rfl) hn hN hbytes hc hs dg (fun q c0 H1 hK1 hP1 hD1 hS1 => ?_)
  have e1 : s.vm.findClass ("[" ++ (.int : FieldType).toString) = some c0 := (hK1.2 3 _ rfl).2
  have e2 : s.vm.findClass ("[" ++ (.int : FieldType).toString) = some (cA 0) := (hK.2 0 _ rfl).2
  have e3 : c0 = cA 0 := Option.some.inj (e1.symm.trans e2)
  subst e3
  exact kk q H1 locs ls hP1 hD1 hS1 hL
theorem JI.newZ (hG : GI X own cc nL fr mc ms lo) {n : Int32} {N : Nat} (hn : ¬ n < 0) (hN : n.toNatClampNeg = N) (hbytes : N * componentBytes .boolean ≤ 536870912) (hc : nc + 1 ≤ mc) (hs : ns + N ≤ ms) (dg : decode cc pc = .ok (.newarray .boolean, 2)) (kk : ∀ q : Nat, JI X nL (pc + 2) L (.ref q :: st) (ws ++ [(q, .inl (cAX X 1, N, .inl (fun _ => 0)))]) (nc + 1) (ns + N)) : JI X nL pc L (.int n :: st) ws nc ns := by
  obtain ⟨p, l, e, R, s, m, args, below, meth, c, D, cA, A, Q⟩ := X
  obtain ⟨hx, hb, hml, hown, hts, hK, hA, hR, hlocks, hNw, hAO⟩ := hG
  intro H locs ls hP hD hS hL
  subst hR
  refine va_newa (atype := .boolean) (ty := .boolean) (N' := N) (a0 := (N, .inl (fun _ => 0))) hx hb (hts _ ac_boolean) rfl hK hP hD hS hA (fun cA => rfl) hn hN hbytes hc hs dg (fun q c0 H1 hK1 hP1 hD1 hS1 => ?_)
  have e1 : s.vm.findClass ("[" ++ (.boolean : FieldType).toString) = some c0 := (hK1.2 3 _ rfl).2
  have e2 : s.vm.findClass ("[" ++ (.boolean : FieldType).toString) = some (cA 1) := (hK.2 1 _ rfl).2
  have e3 : c0 = cA 1 := Option.some.inj (e1.symm.trans e2)
  subst e3
  exact kk q H1 locs ls hP1 hD1 hS1 hL
theorem JI.newQ (hG : GI X own cc nL fr mc ms lo) {n : Int32} {N idx : Nat} (hcl : Cond.classLink own idx RX2 ∈ BIG) (hn : ¬ n < 0) (hN : n.toNatClampNeg = N) (hbytes : N * 4 ≤ 536870912) (hc : nc + 1 ≤ mc) (hs : ns + N ≤ ms) (dg : decode cc pc = .ok (.anewarray idx, 3)) (kk : ∀ q : Nat, JI X nL (pc + 3) L (.ref q :: st) (ws ++ [(q, .inl (cAX X 2, N, .inr (.inr (.inr (.inr (fun _ => none))))))]) (nc + 1) (ns + N)) : JI X nL pc L (.int n :: st) ws nc ns := by
  obtain ⟨p, l, e, R, s, m, args, below, meth, c, D, cA, A, Q⟩ := X
  obtain ⟨hx, hb, hml, hown, hts, hK, hA, hR, hlocks, hNw, hAO⟩ := hG
  intro H locs ls hP hD hS hL
  subst hR
  refine va_newq (C := RX2) (N' := N) hx hb hown (hts _ hcl) hAO hK hP hD hS hA hn hN hbytes hc hs dg (fun q c0 H1 hK1 hP1 hD1 hS1 => ?_)
  obtain ⟨kA, comp, -, -, -, e1⟩ := (hK1.2 3 _ rfl).2
  obtain ⟨kB, comp2, -, -, -, e2⟩ := (hK.2 2 _ rfl).2
  have e3 : c0 = cA 2 := Option.some.inj (e1.symm.trans e2)
  subst e3
  exact kk q H1 locs ls hP1 hD1 hS1 hL
theorem JI.astq (hG : GI X own cc nL fr mc ms lo) {a v n qk q0 : Nat} {vs : List Value} {f : Nat → Option Nat} {A B : va_W} {i : Int32} (hv : B[qk]? = some (v, .inr (2, vs))) (hin : vp_in i n) (hq : q0 = A.length) (dg : decode cc pc = .ok (.aastore, 1)) (kk : JI X nL (pc + 1) L st (A ++ (a, .inl (cAX X 2, n, .inr (.inr (.inr (.inr (va_up f i.toNatClampNeg (some v))))))) :: B) nc ns) : JI X nL pc L (.ref v :: .int i :: .ref a :: st) (A ++ (a, .inl (cAX X 2, n, .inr (.inr (.inr (.inr f))))) :: B) nc ns := by
  obtain ⟨p, l, e, R, s, m, args, below, meth, c, D, cA, AX, Q⟩ := X
  obtain ⟨hx, hb, hml, hown, hts, hK, hA, hR, hlocks, hNw, hAO⟩ := hG
  intro H locs ls hP hD hS hL
  refine va_astq (r := (RX2, TX2, 5)) (cA := cA 2) (n := n) (v := v) (vs := vs) (f := f) hx hb hK hP hD hS A.length 2 (A.length + 1 + qk) 2 ws_mid rfl (ws_mid2 hv) rfl hin dg (fun H1 locs1 hP1 hD1 hS1 => ?_)
  rw [ws_set] at hP1 hD1
  exact kk H1 locs1 ls hP1 hD1 hS1 hL
theorem JI.goto (hG : GI X own cc nL fr mc ms lo) {off : Int} (tgt : Nat) (dg : decode cc pc = .ok (.goto off, 3)) (ht : (pc : Int) + off = (tgt : Int)) (kk : JI X nL tgt L st ws nc ns) : JI X nL pc L st ws nc ns := by
  obtain ⟨p, l, e, R, s, m, args, below, meth, c, D, cA, A, Q⟩ := X
  obtain ⟨hx, hb, hml, hown, hts, hK, hA, hR, hlocks, hNw, hAO⟩ := hG
  intro H locs ls hP hD hS hL
  exact lv_goto hx hb dg ht (kk H locs ls hP hD hS hL)
theorem JI.icmp_ge (hG : GI X own cc nL fr mc ms lo) {x y : Int32} {off : Int} (tgt : Nat) (dg : decode cc pc = .ok (.if_icmp .ge off, 3)) (ht : (pc : Int) + off = (tgt : Int)) (kt : y ≤ x → JI X nL tgt L st ws nc ns) (kf : ¬ y ≤ x → JI X nL (pc + 3) L st ws nc ns) : JI X nL pc L (.int y :: .int x :: st) ws nc ns := by
  obtain ⟨p, l, e, R, s, m, args, below, meth, c, D, cA, A, Q⟩ := X
  obtain ⟨hx, hb, hml, hown, hts, hK, hA, hR, hlocks, hNw, hAO⟩ := hG
  intro H locs ls hP hD hS hL
  exact lv_icmp_ge hx hb dg ht (fun h => kt h H locs ls hP hD hS hL) (fun h => kf h H locs ls hP hD hS hL)
/-- A CONSTRUCTOR'S CONTRACT: name, code, locals; frames, cells, slots, locals' room; from a fresh object it leaves a world -/
abbrev MdI : Type := MethodName × ByteArray × Nat × Nat × Nat × Nat × Nat
def wsI (d : MdI) : List Cond := Cond.code d.1 d.2.1 d.2.2.1 none :: BIG
def rmI (d : MdI) : Room := { frames := d.2.2.2.1, cells := d.2.2.2.2.1, slots := d.2.2.2.2.2.1, locals := d.2.2.2.2.2.2 }
def IPre (D : va_G) (cA : Nat → ClassId) (sz : Nat) (w : va_W) : State → Prop := fun U => U.heap.size = sz ∧ va_P D vwCl w U.heap ∧ va_K D vwCl (tysOf cA) U ∧ (∀ w ∈ nestW, va_Nw w U) ∧ va_AO RX2 U
def IQ (D : va_G) (A : Nat → Prop) (Sh : va_W → Prop) : Array Value → State → Outcome → State → Prop := va_Qv Sh (fun w t => va_P D vwCl w t.heap ∧ va_D A w) A
def InitC (d : MdI) (ci : Nat) (fs0 : List Value) (Sh : (Nat → ClassId) → Nat → va_W → Prop) : Prop := ∀ (l : Launch) (D : va_G) (cA : Nat → ClassId) (sz h : Nat), Met l d.1 (wsI d) (rmI d) (va_Pc [.ref h] (IPre D cA sz [(h, .inr (ci, fs0))])) (IQ D (va_A [(h, .inr (ci, fs0))] sz) (Sh cA h)) d.2.2.2.2.1 d.2.2.2.2.2.1 (va_A [(h, .inr (ci, fs0))] sz)
def endsI (X : CxI) (Sh : va_W → Prop) (mc ms : Nat) : Prop := match X with
  | (_, _, _, _, s, _, args, below, meth, _, D, _, A, Q) => meth.sig.returnType = none ∧ Q = MQ below (IQ D A Sh) args s mc ms A
theorem JI.vret (hG : GI X own cc nL fr mc ms lo) {Sh : va_W → Prop} (hQ : endsI X Sh nc ns) (dg : decode cc pc = .ok (.return_, 1)) (hs : Sh ws) : JI X nL pc L [] ws nc ns := by
  obtain ⟨p, l, e, R, s, m, args, below, meth, c, D, cA, A, Q⟩ := X
  obtain ⟨hx, hb, hml, hown, hts, hK, hA, hR, hlocks, hNw, hAO⟩ := hG
  intro H locs ls hP hD hS hL
  obtain ⟨hr, rfl⟩ := hQ
  exact W.vret hx hb hr (fun t ht hW => ⟨⟨ws, rfl, hs, by rw [ht]; exact hP, hD⟩, hS.F ht⟩) hS.2.2 dg (hlocks := hlocks)
theorem InitC.of {d : MdI} {ci : Nat} {fs0 : List Value} {Sh : (Nat → ClassId) → Nat → va_W → Prop} (hy : plainName d.1.cls = true) (hnm : d.1.name = "<init>") (hlen : 1 ≤ d.2.2.1)
    (h : ∀ (X : CxI) (h0 : Nat), GI X d.1.cls d.2.1 d.2.2.1 d.2.2.2.1 d.2.2.2.2.1 d.2.2.2.2.2.1 d.2.2.2.2.2.2 → isInit X → endsI X (Sh (cAX X) h0) d.2.2.2.2.1 d.2.2.2.2.2.1 → JI X d.2.2.1 0 [(0, .ref h0)] [] [(h0, .inr (ci, fs0))] 0 0) : InitC d ci fs0 Sh := by
  intro l D cA sz h0
  obtain ⟨y, cc, n, fr, mc, ms, lo⟩ := d
  refine Met.ofW (cc := cc) (maxL := n) (ret := none) hy rfl ?_
  intro p e s m args below meth c s₁ B hml hv
  obtain ⟨rfl, hsz, hP, hK, hN, hAO⟩ := hv
  have hts := atoms_spec (ws := wsI (y, cc, n, fr, mc, ms, lo)) B.pre
  subst hsz
  have hin : meth.name = "<init>" := ((name_of_methodNamed B.named B.method).1).trans hnm
  have hD : va_D (va_A [(h0, .inr (ci, fs0))] s.heap.size) [(h0, .inr (ci, fs0))] := by
    refine ⟨fun i j p q hi hj _ => ?_, fun k q hk => va_A.in hk⟩
    have h1 := (List.getElem?_eq_some_iff.mp hi).1
    have h2 := (List.getElem?_eq_some_iff.mp hj).1
    simp only [List.length_cons, List.length_nil] at h1 h2
    omega
  have k := h (p, l, e, ({ frames := fr, cells := mc, slots := ms, locals := lo } : Room), s, m, ([Value.ref h0] : List Value).toArray, below, meth, c, D, cA, va_A [(h0, .inr (ci, fs0))] s.heap.size, MQ below (IQ D (va_A [(h0, .inr (ci, fs0))] s.heap.size) (Sh cA h0)) ([Value.ref h0] : List Value).toArray s mc ms (va_A [(h0, .inr (ci, fs0))] s.heap.size)) h0 ⟨B.exec, B.bytes, hml, findClass_of_methodNamed B.named, fun w hw => hts w (List.mem_cons_of_mem _ hw), hK, fun q hq => Or.inr hq, rfl, B.notSynchronized, hN, hAO⟩ hin ⟨B.returns, rfl⟩
  have hl := lv_entry ([.ref h0]) (n := n) (by show 1 ≤ n; exact hlen)
  rw [lg_entry_eq]
  exact k s.heap [] _ hP hD va_S.rf hl
def OkI (d : MdI) : Prop := Cond.code d.1 d.2.1 d.2.2.1 none ∈ BIG ∧ Cond.initialized d.1.cls ∈ BIG ∧ Cond.instanceMethod d.1 ∈ BIG ∧ d.1.name = "<init>" ∧ (d.1.cls ≠ "java/lang/invoke/MethodHandle" ∧ d.1.cls ≠ "java/lang/invoke/VarHandle" ∧ (parseMethodDescriptor d.1.desc).map (fun d => d.parameters.length) = some 0)
theorem wsI_good {d : MdI} (h : Cond.code d.1 d.2.1 d.2.2.1 none ∈ BIG) : GoodIn BIG (wsI d) := by
  intro w hw
  rcases List.mem_cons.mp hw with h1 | h1
  · rw [h1]; exact ⟨h, good_of_word (big_good h)⟩
  · exact ⟨h1, good_of_word (big_good h1)⟩
theorem IPre_blind {D : va_G} {cA : Nat → ClassId} {sz : Nat} {w : va_W} {av : List Value} : FrameBlind (va_Pc av (IPre D cA sz w)) := fun a U g mk q => by
  obtain ⟨q0, q1, qP, qK, qN, qO⟩ := q
  exact ⟨q0, q1, qP, va_K.moved (u := U) (U := U.calling g mk a) (Vm.Alike.refl U.vm) qK, nest_same (s := U) (U := U.calling g mk a) rfl qN, va_AO.moved (u := U) (U := U.calling g mk a) (Vm.Alike.refl U.vm) qO⟩
theorem JI.callI (hG : GI X own cc nL fr mc ms lo) {d : MdI} {ci : Nat} {fs0 : List Value} {Sh : (Nat → ClassId) → Nat → va_W → Prop} {q idx : Nat} (hc : InitC d ci fs0 Sh) (ok : OkI d) (hl : Cond.methodLink own idx d.1 ∈ BIG) (hst : st.length ≤ 4) (hroom : d.2.2.2.1 + 1 ≤ fr ∧ 8 + (d.2.2.1 + 11) + d.2.2.2.2.2.2 ≤ lo) (hcs : nc + d.2.2.2.2.1 ≤ mc ∧ ns + d.2.2.2.2.2.1 ≤ ms) (dg : decode cc pc = .ok (.invokespecial idx, 3)) (kk : ∀ w : va_W, Sh (cAX X) q w → JI X nL (pc + 3) L st (ws ++ w) (nc + d.2.2.2.2.1) (ns + d.2.2.2.2.2.1)) : JI X nL pc L (.ref q :: st) (ws ++ [(q, .inr (ci, fs0))]) nc ns := by
  obtain ⟨p, l, e, R, s, m, args, below, meth, c, D, cA, A, Q⟩ := X
  obtain ⟨hx, hb, hml, hown, hts, hK, hA, hR, hlocks, hNw, hAO⟩ := hG
  intro H locs ls hP hD hS hL
  subst hR
  have hPc := hP.rgt
  have hF : ∀ z, va_A [(q, .inr (ci, fs0))] H.size z → A z := fun z hz => by
    rcases hz with ⟨k, x, hk⟩ | h
    · exact hD.rgt.2 k _ hk
    · exact hA z (Nat.le_trans hS.1 h)
  refine va_callv (va_runI (As := []) (rest := st) ⟨hx, hb, hml, hown, hts⟩ (hc l D cA H.size q) (cwI (mc := d.2.2.2.2.1) (ms := d.2.2.2.2.2.1) 0 hts (wsI_good ok.1) rfl rfl rfl (hts _ ok.2.1) (hts _ hl) (hts _ ok.2.2.1) ok.2.2.2.1 ok.2.2.2.2 hroom) ⟨IPre_blind, fun U hU hW => ⟨rfl, by rw [hU], by rw [hU]; exact hPc, va_K.moved hW.alike hK, nest_warm hW hNw, va_AO.moved hW.alike hAO⟩⟩ rfl rfl hL.1 rfl (lv_room (Nat.le_trans (catsV st) (by omega))) dg hcs) hS (fun z _ h => hF z h) hF (fun w t H1 locs1 ht hvm hw hB hz1 hk1 hS1 => ?_)
  obtain ⟨hP1, hD1⟩ := hB
  rw [ht] at hP1
  obtain ⟨hP2, hD2⟩ := va_joinR hP hD (B := va_A [(q, .inr (ci, fs0))] H.size) (fun z hz => by
    rcases hz with ⟨k, x, hk⟩ | h
    · exact Or.inl ⟨k, _, hk, rfl⟩
    · exact Or.inr h) hF hk1 hP1 hD1
  exact kk w hw H1 locs1 ls hP2 hD2 hS1 hL
theorem JI.callN (hG : GI X own cc nL fr mc ms lo) {d : MdI} {ci : Nat} {fs0 : List Value} {Sh : (Nat → ClassId) → Nat → va_W → Prop} {q idx : Nat} (hc : InitC d ci fs0 Sh) (ok : OkI d) (hl : Cond.methodLinkNest own idx d.1 RX6 ∈ nestW) (hst : st.length ≤ 4) (hroom : d.2.2.2.1 + 1 ≤ fr ∧ 8 + (d.2.2.1 + 11) + d.2.2.2.2.2.2 ≤ lo) (hcs : nc + d.2.2.2.2.1 ≤ mc ∧ ns + d.2.2.2.2.2.1 ≤ ms) (dg : decode cc pc = .ok (.invokespecial idx, 3)) (kk : ∀ w : va_W, Sh (cAX X) q w → JI X nL (pc + 3) L st (ws ++ w) (nc + d.2.2.2.2.1) (ns + d.2.2.2.2.2.1)) : JI X nL pc L (.ref q :: st) (ws ++ [(q, .inr (ci, fs0))]) nc ns := by
  obtain ⟨p, l, e, R, s, m, args, below, meth, c, D, cA, A, Q⟩ := X
  obtain ⟨hx, hb, hml, hown, hts, hK, hA, hR, hlocks, hNw, hAO⟩ := hG
  intro H locs ls hP hD hS hL
  subst hR
  have hPc := hP.rgt
  have hF : ∀ z, va_A [(q, .inr (ci, fs0))] H.size z → A z := fun z hz => by
    rcases hz with ⟨k, x, hk⟩ | h
    · exact hD.rgt.2 k _ hk
    · exact hA z (Nat.le_trans hS.1 h)
  refine va_callv (va_runIN (As := []) (rest := st) ⟨hx, hb, hml, hown, hts⟩ (hc l D cA H.size q) (⟨va_cnB (ret := none) (mc := d.2.2.2.2.1) (ms := d.2.2.2.2.2.1) 0 hts (wsI_good ok.1) rfl rfl rfl (hNw _ hl) (hts _ ok.2.1) ok.2.2.2.2 hroom, ok.2.2.2.1, hts _ ok.2.2.1⟩) ⟨IPre_blind, fun U hU hW => ⟨rfl, by rw [hU], by rw [hU]; exact hPc, va_K.moved hW.alike hK, nest_warm hW hNw, va_AO.moved hW.alike hAO⟩⟩ rfl rfl hL.1 rfl (lv_room (Nat.le_trans (catsV st) (by omega))) dg hcs) hS (fun z _ h => hF z h) hF (fun w t H1 locs1 ht hvm hw hB hz1 hk1 hS1 => ?_)
  obtain ⟨hP1, hD1⟩ := hB
  rw [ht] at hP1
  obtain ⟨hP2, hD2⟩ := va_joinR hP hD (B := va_A [(q, .inr (ci, fs0))] H.size) (fun z hz => by
    rcases hz with ⟨k, x, hk⟩ | h
    · exact Or.inl ⟨k, _, hk, rfl⟩
    · exact Or.inr h) hF hk1 hP1 hD1
  exact kk w hw H1 locs1 ls hP2 hD2 hS1 hL
end JIR

/-! the law's own steps -/
theorem and31 (x : Int32) : 0 ≤ (x &&& 31).toInt ∧ (x &&& 31).toInt ≤ 31 := by
  have h : (x &&& 31).toBitVec.toNat ≤ 31 := by
    rw [Int32.toBitVec_and, BitVec.toNat_and]
    exact Nat.and_le_right
  have h2 : (x &&& 31).toInt = ((x &&& 31).toBitVec.toNat : Int) := by
    rw [← Int32.toInt_toBitVec, BitVec.toInt_eq_toNat_of_lt (by omega)]
  omega
/-- the script, as the law reads it -/
def Scr (X : CxI) (b L : Nat) (xs : Nat → Int32) : Prop := match X with
  | (_, _, _, _, s, _, _, _, _, _, _, _, A, _) => va_X b L xs s s.heap ∧ b < s.heap.size ∧ ¬ A b
def zz (xs : Nat → Int32) (k : Int) : Int := (xs k.toNat).toInt
def mcV (ad : Nat → Nat) (r : Option AV) : List Value := (r.map (cv ad)).toList
theorem mcV_len (ad : Nat → Nat) (r : Option AV) (st : List Value) (h : st.length ≤ 3) : (mcV ad r ++ st).length ≤ 4 := by
  cases r with
  | none => show st.length ≤ 4; omega
  | some v => show st.length + 1 ≤ 4; omega
section JLR
variable {X : CxI} {own : String} {cc : ByteArray} {nL fr mc ms lo nc ns : Nat} {pc : Nat} {L L' : List (Nat × Value)} {st : List Value} {ws : va_W}
theorem JI.comm {w1 w2 : va_W} (kk : JI X nL pc L st (w2 ++ w1) nc ns) : JI X nL pc L st (w1 ++ w2) nc ns := by
  obtain ⟨p, l, e, R, s, m, args, below, meth, c, D, cA, A, Q⟩ := X
  intro H locs ls hP hD hS hL
  exact kk H locs ls hP.comm hD.comm hS hL
theorem JI.widen {k n : Nat} (h1 : nc ≤ k) (h2 : ns ≤ n) (kk : JI X nL pc L st ws k n) : JI X nL pc L st ws nc ns := by
  obtain ⟨p, l, e, R, s, m, args, below, meth, c, D, cA, A, Q⟩ := X
  intro H locs ls hP hD hS hL
  exact W.widen h1 h2 (kk H locs ls hP hD hS hL)
theorem JI.iaddI (hG : GI X own cc nL fr mc ms lo) {x y : Int} (dg : decode cc pc = .ok (.iadd, 1)) (kk : JI X nL (pc + 1) L (.int (Int32.ofInt (x + y)) :: st) (ws) nc ns) : JI X nL pc L (.int (Int32.ofInt y) :: .int (Int32.ofInt x) :: st) (ws) nc ns := by
  obtain ⟨p, l, e, R, s, m, args, below, meth, c, D, cA, A, Q⟩ := X
  obtain ⟨hx, hb, hml, hown, hts, hK, hA, hR, hlocks, hNw, hAO⟩ := hG
  intro H locs ls hP hD hS hL
  have k := kk H locs ls hP hD hS hL
  rw [Int32.ofInt_add] at k
  exact lv_iadd hx hb dg k
theorem JI.isubI (hG : GI X own cc nL fr mc ms lo) {x y : Int} (dg : decode cc pc = .ok (.isub, 1)) (kk : JI X nL (pc + 1) L (.int (Int32.ofInt (x - y)) :: st) (ws) nc ns) : JI X nL pc L (.int (Int32.ofInt y) :: .int (Int32.ofInt x) :: st) (ws) nc ns := by
  obtain ⟨p, l, e, R, s, m, args, below, meth, c, D, cA, A, Q⟩ := X
  obtain ⟨hx, hb, hml, hown, hts, hK, hA, hR, hlocks, hNw, hAO⟩ := hG
  intro H locs ls hP hD hS hL
  have k := kk H locs ls hP hD hS hL
  rw [Int32.ofInt_sub] at k
  exact lv_isub hx hb dg k
theorem JI.sldI (hG : GI X own cc nL fr mc ms lo) {b Ln : Nat} {xs : Nat → Int32} (hX : Scr X b Ln xs) {k : Int} (h0 : 0 ≤ k) (h1 : k < Ln) (h2 : k < 1000) (dg : decode cc pc = .ok (.iaload, 1)) (kk : JI X nL (pc + 1) L (.int (Int32.ofInt (zz xs k)) :: st) (ws) nc ns) : JI X nL pc L (.int (Int32.ofInt k) :: .ref b :: st) (ws) nc ns := by
  obtain ⟨p, l, e, R, s, m, args, below, meth, c, D, cA, A, Q⟩ := X
  obtain ⟨hx, hb, hml, hown, hts, hK, hA, hR, hlocks, hNw, hAO⟩ := hG
  intro H locs ls hP hD hS hL
  obtain ⟨hX, hbl, hbA⟩ := hX
  have ok : okI k := ⟨by omega, by omega⟩
  have k2 := kk H locs ls hP hD hS hL
  have e : (Value.int (Int32.ofInt (zz xs k))) = .int (xs (Int32.ofInt k).toNatClampNeg) := by
    unfold zz
    rw [Int32.ofInt_toInt, toNI ok]
  rw [e] at k2
  exact va_sld hx hb hX hbl hbA hS (vpin ok h0 h1) dg k2
theorem JI.slenI (hG : GI X own cc nL fr mc ms lo) {b Ln : Nat} {xs : Nat → Int32} (hX : Scr X b Ln xs) (dg : decode cc pc = .ok (.arraylength, 1)) (kk : JI X nL (pc + 1) L (.int (Int32.ofInt Ln) :: st) (ws) nc ns) : JI X nL pc L (.ref b :: st) (ws) nc ns := by
  obtain ⟨p, l, e, R, s, m, args, below, meth, c, D, cA, A, Q⟩ := X
  obtain ⟨hx, hb, hml, hown, hts, hK, hA, hR, hlocks, hNw, hAO⟩ := hG
  intro H locs ls hP hD hS hL
  obtain ⟨hX, hbl, hbA⟩ := hX
  have k2 := kk H locs ls hP hD hS hL
  have e : (Value.int (Int32.ofInt (Ln : Int))) = .int (Int32.ofNat Ln) := rfl
  rw [e] at k2
  exact va_slen hx hb hX hbl hbA hS dg k2
theorem JI.iand31 (hG : GI X own cc nL fr mc ms lo) {x : Int} (z : Int) (hz : z = (Int32.ofInt x &&& 31).toInt) (dg : decode cc pc = .ok (.iand, 1)) (kk : JI X nL (pc + 1) L (.int (Int32.ofInt z) :: st) (ws) nc ns) : JI X nL pc L (.int 31 :: .int (Int32.ofInt x) :: st) (ws) nc ns := by
  obtain ⟨p, l, e, R, s, m, args, below, meth, c, D, cA, A, Q⟩ := X
  obtain ⟨hx, hb, hml, hown, hts, hK, hA, hR, hlocks, hNw, hAO⟩ := hG
  intro H locs ls hP hD hS hL
  have k := kk H locs ls hP hD hS hL
  rw [hz, Int32.ofInt_toInt] at k
  exact lv_iand hx hb dg k
theorem JI.icmp_gtI (hG : GI X own cc nL fr mc ms lo) {x y : Int} {off : Int} (tgt : Nat) (ox : okI x) (oy : okI y) (dg : decode cc pc = .ok (.if_icmp .gt off, 3)) (ht : (pc : Int) + off = (tgt : Int)) (kt : y < x → JI X nL tgt L st ws nc ns) (kf : ¬ y < x → JI X nL (pc + 3) L st ws nc ns) : JI X nL pc L (.int (Int32.ofInt y) :: .int (Int32.ofInt x) :: st) ws nc ns := by
  obtain ⟨p, l, e, R, s, m, args, below, meth, c, D, cA, A, Q⟩ := X
  obtain ⟨hx, hb, hml, hown, hts, hK, hA, hR, hlocks, hNw, hAO⟩ := hG
  intro H locs ls hP hD hS hL
  exact lv_icmp_gt hx hb dg ht (fun h => kt ((i32_lt oy ox).mp h) H locs ls hP hD hS hL) (fun h => kf (fun w => h ((i32_lt oy ox).mpr w)) H locs ls hP hD hS hL)
theorem JI.icmp_eqT (hG : GI X own cc nL fr mc ms lo) {x : Int32} {off : Int} (tgt : Nat) (dg : decode cc pc = .ok (.if_icmp .eq off, 3)) (ht : (pc : Int) + off = (tgt : Int)) (kt : JI X nL tgt L st ws nc ns) : JI X nL pc L (.int x :: .int x :: st) ws nc ns := by
  obtain ⟨p, l, e, R, s, m, args, below, meth, c, D, cA, A, Q⟩ := X
  obtain ⟨hx, hb, hml, hown, hts, hK, hA, hR, hlocks, hNw, hAO⟩ := hG
  intro H locs ls hP hD hS hL
  exact lv_icmp_eq hx hb dg ht (fun _ => kt H locs ls hP hD hS hL) (fun h => absurd rfl h)
theorem JI.if_eqT (hG : GI X own cc nL fr mc ms lo) {off : Int} (tgt : Nat) (dg : decode cc pc = .ok (.ifCond .eq off, 3)) (ht : (pc : Int) + off = (tgt : Int)) (kt : JI X nL tgt L st ws nc ns) : JI X nL pc L (.int 0 :: st) ws nc ns := by
  obtain ⟨p, l, e, R, s, m, args, below, meth, c, D, cA, A, Q⟩ := X
  obtain ⟨hx, hb, hml, hown, hts, hK, hA, hR, hlocks, hNw, hAO⟩ := hG
  intro H locs ls hP hD hS hL
  exact lv_if_eq hx hb dg ht (fun _ => kt H locs ls hP hD hS hL) (fun h => absurd rfl h)
theorem JI.lcmpE (hG : GI X own cc nL fr mc ms lo) {x : Int64} (dg : decode cc pc = .ok (.lcmp, 1)) (kk : JI X nL (pc + 1) L (.int 0 :: st) ws nc ns) : JI X nL pc L (.long x :: .long x :: st) ws nc ns := by
  obtain ⟨p, l, e, R, s, m, args, below, meth, c, D, cA, A, Q⟩ := X
  obtain ⟨hx, hb, hml, hown, hts, hK, hA, hR, hlocks, hNw, hAO⟩ := hG
  intro H locs ls hP hD hS hL
  have k := kk H locs ls hP hD hS hL
  refine W.lcmp hx hb dg ?_
  have e1 : lg_cmp x x = 0 := by simp [lg_cmp]
  rw [e1]
  exact k
theorem JI.tabInI (hG : GI X own cc nL fr mc ms lo) {dflt lw hi : Int} {offs : Array Int} {len : Nat} {x off : Int} (tgt : Nat) (ox : okI x) (dg : decode cc pc = .ok (.tableswitch dflt lw hi offs, len)) (h1 : lw ≤ x) (h2 : x ≤ hi) (ho : offs[(x - lw).toNat]? = some off) (ht : (pc : Int) + off = (tgt : Int)) (kk : JI X nL tgt L st ws nc ns) : JI X nL pc L (.int (Int32.ofInt x) :: st) ws nc ns := by
  obtain ⟨p, l, e, R, s, m, args, below, meth, c, D, cA, A, Q⟩ := X
  obtain ⟨hx, hb, hml, hown, hts, hK, hA, hR, hlocks, hNw, hAO⟩ := hG
  intro H locs ls hP hD hS hL
  exact lv_tableIn hx hb dg (by rw [toI ox]; omega) (by rw [toI ox]; omega) (by rw [toI ox]; exact ho) ht (kk H locs ls hP hD hS hL)
theorem JI.callW (hG : GI X own cc nL fr mc ms lo) {T : List Sh} {d : Md} {as : List AV} {a : Mem} {wr : va_W} {ad : Nat → Nat} {P : Option AV → Mem → Prop} {n idx ci : Nat} {codes : List Nat} {q : vw_C} {st0 : List Value} (hc : CT T d (aR 0 :: as) a P) (ok : OkV d n) (hl : Cond.methodLink own idx d.1 ∈ BIG) (hi : T[0]? = some (.inl (ci, codes))) (hq : vwCl[ci]? = some q) (hqc : q.1 = d.1.cls) (had : ∀ i j, i < T.length → j < T.length → ad i = ad j → i = j) (oas : ∀ v ∈ as, okV v) (oM : okM a) (hn : as.length = n) (hst : st.length ≤ 4) (hroom : d.2.2.2.2.1 + 1 ≤ fr ∧ 8 + (d.2.2.1 + 11) + d.2.2.2.2.2 ≤ lo) (hcs : nc ≤ mc ∧ ns ≤ ms) (dg : decode cc pc = .ok (.invokevirtual idx, 3)) (hs : st0 = (as.map (cv ad)).reverse ++ .ref (ad 0) :: st) (kk : ∀ r a1, P r a1 → okM a1 → JI X nL (pc + 3) L (mcV ad r ++ st) (wr ++ wOf T ad (cAX X) a1) nc ns) : JI X nL pc L st0 (wr ++ wOf T ad (cAX X) a) nc ns := by
  obtain ⟨p, l, e, R, s, m, args, below, meth, c, D, cA, A, Q⟩ := X
  obtain ⟨hx, hb, hml, hown, hts, hK, hA, hR, hlocks, hNw, hAO⟩ := hG
  intro H locs ls hP hD hS hL
  subst hR
  subst hs
  have oas' : ∀ v ∈ aR 0 :: as, okV v := List.forall_mem_cons.mpr ⟨trivial, oas⟩
  have hM := hc oas' oM l D ad cA H.size had
  have hPc := hP.rgt
  have cw : CallW ({ frames := fr, cells := mc, slots := ms, locals := lo } : Room) s args own d.1.cls idx d.1 d.2.1 d.2.2.1 d.2.2.2.1 (wsOf d) (rmOf d) 0 0 n := ⟨callB_of (ret := d.2.2.2.1) (mc := 0) (ms := 0) n hts (wsOf_good ok.1) rfl rfl rfl (hts _ ok.2.1) (hts _ hl) ⟨ok.2.2.2.1.1, ok.2.2.2.1.2, ok.2.2.2.2⟩ hroom, hts _ ok.2.2.1.1, hts _ ok.2.2.1.2⟩
  have hp : PreV s H d.1.cls (ad 0) (va_Pc ((aR 0 :: as).map (cv ad)) (CPre T D ad cA H.size a)) (as.map (cv ad)) := ⟨CPre_blind, by rw [← hqc]; exact va_recv hK hPc hq (wOf_at hi), fun U hU hW => ⟨rfl, by rw [hU], by rw [hU]; exact hPc, va_K.moved hW.alike hK, nest_warm hW hNw⟩⟩
  have run := va_runV (As := as.map (cv ad)) (rest := st) (cells := nc) (slots := ns) (H := H) (locs := locs) (below := below) (meth := meth) (e := e) (g := F0 m pc ls ((as.map (cv ad)).reverse ++ .ref (ad 0) :: st)) ⟨hx, hb, hml, hown, hts⟩ hM cw hp rfl (by rw [List.length_map]; exact hn) hL.1 rfl (lv_room (Nat.le_trans (catsV st) (by omega))) dg hcs
  intro T0 hT0 X0
  obtain ⟨v, st₀, t, T', Lk, h0, X', hLk, e1, e2, ⟨⟨r, μ', hv, hp', okr, oM', hP'⟩, hz, hk⟩, stp⟩ := run T0 hT0 X0
  cases hv
  rw [h0] at hz hk
  have hBA : ∀ z, AA T ad H.size z → A z := fun z hz2 => by
    rcases hz2 with ⟨k, hk2, rfl⟩ | h
    · exact hD.rgt.2 k _ (wOf_at (List.getElem?_eq_getElem hk2))
    · exact hA z (Nat.le_trans hS.1 h)
  have hD1 : va_D (AA T ad H.size) (wOf T ad cA μ') := wOf_D had (fun k hk2 => Or.inl ⟨k, hk2, rfl⟩) μ'
  obtain ⟨hP2, hD2⟩ := va_joinR (w1 := wOf T ad cA μ') (H1 := t.heap) hP hD (B := AA T ad H.size) (fun z hz2 => by
    rcases hz2 with ⟨k, hk2, rfl⟩ | h
    · exact Or.inl ⟨k, _, wOf_at (List.getElem?_eq_getElem hk2), rfl⟩
    · exact Or.inr h) hBA hk hP' hD1
  obtain ⟨t2, a1, b1⟩ := kk r μ' hp' oM' T'.heap (locs ++ Lk) ls (by rw [e1]; exact hP2) hD2 ⟨Nat.le_trans hS.1 (by rw [e1]; exact hz), fun z h1 h2 => by rw [e1, hk z (Nat.lt_of_lt_of_le h1 hS.1) (fun w => h2 (hBA z w))]; exact hS.2.1 z h1 h2, fun z hz2 => by
      rcases List.mem_append.mp hz2 with h | h
      · exact hS.2.2 z h
      · exact hBA _ (hLk z h)⟩ hL T' rfl X'
  exact ⟨t2, stp t2 a1, b1⟩
end JLR

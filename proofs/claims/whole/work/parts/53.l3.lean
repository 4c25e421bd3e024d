/-! the start, and the loop -/
theorem okM_X0 : okM muX0 := by
  intro c j _
  unfold muX0
  split
  · split <;> decide
  · split <;> decide
  · split <;> decide
  · decide
theorem okM_M0 : okM muM0 := by
  intro c j _
  unfold muM0
  split
  · split <;> decide
  · decide
theorem Sim_0 : Sim muX0 muM0 := by
  have z : ∀ c : Nat, c ≠ 1 → c ≠ 2 → c ≠ 13 → ∀ j, muX0 c j = 0 := by
    intro c h1 h2 h3 j
    unfold muX0
    split <;> first | rfl | contradiction
  have y : ∀ c : Nat, c ≠ 0 → ∀ j, muM0 c j = 0 := by
    intro c h1 j
    unfold muM0
    split <;> first | rfl | contradiction
  have a0 : muX0 13 0 = 0 := rfl
  have a1 : muX0 13 1 = 0 := rfl
  have a2 : muX0 13 2 = 0 := rfl
  have a3 : muX0 13 3 = 2 := rfl
  refine ⟨⟨⟨rfl, ?_⟩, ⟨by decide, fun i p q => ?_⟩, rfl, rfl⟩, ⟨⟨rfl, rfl, rfl, rfl⟩, fun s p q => ?_, fun l s p q => ?_, fun p u v => ?_⟩, ⟨⟨by decide, by decide, by decide, by decide, fun s p q => ?_, fun l s p q => ?_⟩, fun p u v => ?_, ⟨rfl, rfl⟩, by decide, fun s p q => ?_, fun l s p q => ?_⟩, ⟨by unfold XP; decide, rfl, fun i p q => ?_⟩, fun i hi => ?_, ⟨⟨by decide, fun i p q => ?_⟩, rfl, fun i p q => ?_⟩, ⟨⟨by decide, fun i p q => ?_⟩, rfl, fun i p q => ?_⟩, rfl⟩
  · funext j
    rw [y 1 (by decide), z 10 (by decide) (by decide) (by decide)]
  · have e : muX0 1 0 = 0 := rfl
    omega
  · omega
  · omega
  · omega
  · omega
  · omega
  · omega
  · omega
  · omega
  · have e : muX0 21 0 = 0 := rfl
    omega
  · exact ⟨by rw [y 10 (by decide), z 64 (by decide) (by decide) (by decide)], fun w => absurd (z 64 (by decide) (by decide) (by decide) i) w⟩
  · have e : muX0 65 0 = 0 := rfl
    omega
  · have e : muX0 65 0 = 0 := rfl
    omega
  · have e : muX0 71 0 = 0 := rfl
    omega
  · have e : muX0 71 0 = 0 := rfl
    omega
def AXX (X : CxI) : Nat → Prop := X.2.2.2.2.2.2.2.2.2.2.2.2.1
theorem JI.useD {X : CxI} {nL nc ns pc : Nat} {L : List (Nat × Value)} {st : List Value} {ws : va_W} (kk : va_D (AXX X) ws → JI X nL pc L st ws nc ns) : JI X nL pc L st ws nc ns := by
  obtain ⟨p, l, e, R, s, m, args, below, meth, c, D, cA, A, Q⟩ := X
  intro H locs ls hP hD hS hL
  exact kk hD H locs ls hP hD hS hL
set_option maxRecDepth 100000 in
set_option maxHeartbeats 4000000 in
theorem law_loop {X : CxI} (hG : GI X RL cL_law 4 9 600000 7302250 342) {b0 Ln : Nat} {xs : Nat → Int32} (hS : Scr X b0 Ln xs) (hLn : Ln ≤ 320) {nc ns : Nat} (hcs : nc ≤ 600000 ∧ ns ≤ 7302250) {adX adM : Nat → Nat} (hadX : ∀ i j, i < TX.length → j < TX.length → adX i = adX j → i = j) (hadM : ∀ i j, i < TM.length → j < TM.length → adM i = adM j → i = j) (hend : ∀ (L : List (Nat × Value)) (ws : va_W), JI X 4 1099 L [] ws nc ns) : ∀ (n : Nat) (k : Int), 0 ≤ k → k ≤ Ln → (Ln : Int) - k < 5 * n + 5 → ∀ a b : Mem, Sim a b → okM a → okM b → JI X 4 18 [(3, .int (Int32.ofInt k)), (2, .ref (adM 0)), (1, .ref (adX 0)), (0, .ref b0)] [] (wOf TM adM (cAX X) b ++ wOf TX adX (cAX X) a) nc ns := by
  intro n
  induction n with
  | zero =>
    intro k k0 k1 k2 a b h oa ob
    refine JI.iload_n hG 0 3 dL_law_18 rfl rfl ?_
    refine JI.aload_n hG 3 0 dL_law_19 rfl rfl ?_
    refine JI.slenI hG hS dL_law_20 ?_
    refine JI.iconst hG (Int32.ofInt 5) dL_law_21 rfl ?_
    refine JI.isubI hG dL_law_22 ?_
    exact JI.icmp_gtI hG 1099 ⟨by omega, by omega⟩ ⟨by omega, by omega⟩ dL_law_23 rfl (fun _ => hend _ _) (fun w => absurd (by omega) w)
  | succ n ih =>
    intro k k0 k1 k2 a b h oa ob
    refine JI.iload_n hG 0 3 dL_law_18 rfl rfl ?_
    refine JI.aload_n hG 3 0 dL_law_19 rfl rfl ?_
    refine JI.slenI hG hS dL_law_20 ?_
    refine JI.iconst hG (Int32.ofInt 5) dL_law_21 rfl ?_
    refine JI.isubI hG dL_law_22 ?_
    refine JI.icmp_gtI hG 1099 ⟨by omega, by omega⟩ ⟨by omega, by omega⟩ dL_law_23 rfl (fun _ => hend _ _) (fun w => ?_)
    have hk : 0 ≤ k ∧ k + 5 ≤ Ln ∧ Ln ≤ 320 := ⟨k0, by omega, hLn⟩
    have kk : ∀ a1 b1, Sim a1 b1 → okM a1 → okM b1 → JI X 4 1093 [(3, .int (Int32.ofInt k)), (2, .ref (adM 0)), (1, .ref (adX 0)), (0, .ref b0)] [] (wOf TM adM (cAX X) b1 ++ wOf TX adX (cAX X) a1) nc ns := by
      intro a1 b1 hs oa1 ob1
      refine JI.iinc hG 0 3 dL_law_1093 rfl (v := Int32.ofInt (k + 5)) (Int32.ofInt_add k 5).symm (Nat.le_of_ble_eq_true rfl) (L' := [(3, .int (Int32.ofInt (k + 5))), (2, .ref (adM 0)), (1, .ref (adX 0)), (0, .ref b0)]) rfl ?_
      refine JI.goto hG 18 dL_law_1096 rfl ?_
      exact ih (k + 5) (by omega) (by omega) (by omega) a1 b1 hs oa1 ob1
    refine JI.aload_n hG 3 0 dL_law_26 rfl rfl ?_
    refine JI.iload_n hG 0 3 dL_law_27 rfl rfl ?_
    refine JI.sldI hG hS (by omega) (by omega) (by omega) dL_law_28 ?_
    refine JI.bipush hG 31 dL_law_29 rfl ?_
    obtain ⟨z, hz⟩ : ∃ z, z = (Int32.ofInt (zz xs k) &&& 31).toInt := ⟨_, rfl⟩
    have hb := and31 (Int32.ofInt (zz xs k))
    rw [← hz] at hb
    refine JI.iand31 hG z hz dL_law_31 ?_
    clear hz
    obtain ⟨h1, h2⟩ := hb
    rcases (show z = 0 ∨ z = 1 ∨ z = 2 ∨ z = 3 ∨ z = 4 ∨ z = 5 ∨ z = 6 ∨ z = 7 ∨ z = 8 ∨ z = 9 ∨ z = 10 ∨ z = 11 ∨ z = 12 ∨ z = 13 ∨ z = 14 ∨ z = 15 ∨ z = 16 ∨ z = 17 ∨ z = 18 ∨ z = 19 ∨ z = 20 ∨ z = 21 ∨ z = 22 ∨ z = 23 ∨ z = 24 ∨ z = 25 ∨ z = 26 ∨ z = 27 ∨ z = 28 ∨ z = 29 ∨ z = 30 ∨ z = 31 by omega) with rfl | rfl | rfl | rfl | rfl | rfl | rfl | rfl | rfl | rfl | rfl | rfl | rfl | rfl | rfl | rfl | rfl | rfl | rfl | rfl | rfl | rfl | rfl | rfl | rfl | rfl | rfl | rfl | rfl | rfl | rfl | rfl
    · exact JI.tabInI hG 176 (by decide) dL_law_32 (by decide) (by decide) (off := 144) rfl rfl (lc_0 hG hS hcs hadX hadM k hk h oa ob kk)
    · exact JI.tabInI hG 199 (by decide) dL_law_32 (by decide) (by decide) (off := 167) rfl rfl (lc_1 hG hS hcs hadX hadM k hk h oa ob kk)
    · exact JI.tabInI hG 212 (by decide) dL_law_32 (by decide) (by decide) (off := 180) rfl rfl (lc_2 hG hS hcs hadX hadM k hk h oa ob kk)
    · exact JI.tabInI hG 225 (by decide) dL_law_32 (by decide) (by decide) (off := 193) rfl rfl (lc_3 hG hS hcs hadX hadM k hk h oa ob kk)
    · exact JI.tabInI hG 258 (by decide) dL_law_32 (by decide) (by decide) (off := 226) rfl rfl (lc_4 hG hS hcs hadX hadM k hk h oa ob kk)
    · exact JI.tabInI hG 301 (by decide) dL_law_32 (by decide) (by decide) (off := 269) rfl rfl (lc_5 hG hS hcs hadX hadM k hk h oa ob kk)
    · exact JI.tabInI hG 334 (by decide) dL_law_32 (by decide) (by decide) (off := 302) rfl rfl (lc_6 hG hS hcs hadX hadM k hk h oa ob kk)
    · exact JI.tabInI hG 357 (by decide) dL_law_32 (by decide) (by decide) (off := 325) rfl rfl (lc_7 hG hS hcs hadX hadM k hk h oa ob kk)
    · exact JI.tabInI hG 380 (by decide) dL_law_32 (by decide) (by decide) (off := 348) rfl rfl (lc_8 hG hS hcs hadX hadM k hk h oa ob kk)
    · exact JI.tabInI hG 423 (by decide) dL_law_32 (by decide) (by decide) (off := 391) rfl rfl (lc_9 hG hS hcs hadX hadM k hk h oa ob kk)
    · exact JI.tabInI hG 466 (by decide) dL_law_32 (by decide) (by decide) (off := 434) rfl rfl (lc_10 hG hS hcs hadX hadM k hk h oa ob kk)
    · exact JI.tabInI hG 479 (by decide) dL_law_32 (by decide) (by decide) (off := 447) rfl rfl (lc_11 hG hS hcs hadX hadM k hk h oa ob kk)
    · exact JI.tabInI hG 502 (by decide) dL_law_32 (by decide) (by decide) (off := 470) rfl rfl (lc_12 hG hS hcs hadX hadM k hk h oa ob kk)
    · exact JI.tabInI hG 545 (by decide) dL_law_32 (by decide) (by decide) (off := 513) rfl rfl (lc_13 hG hS hcs hadX hadM k hk h oa ob kk)
    · exact JI.tabInI hG 578 (by decide) dL_law_32 (by decide) (by decide) (off := 546) rfl rfl (lc_14 hG hS hcs hadX hadM k hk h oa ob kk)
    · exact JI.tabInI hG 621 (by decide) dL_law_32 (by decide) (by decide) (off := 589) rfl rfl (lc_15 hG hS hcs hadX hadM k hk h oa ob kk)
    · exact JI.tabInI hG 654 (by decide) dL_law_32 (by decide) (by decide) (off := 622) rfl rfl (lc_16 hG hS hcs hadX hadM k hk h oa ob kk)
    · exact JI.tabInI hG 687 (by decide) dL_law_32 (by decide) (by decide) (off := 655) rfl rfl (lc_17 hG hS hcs hadX hadM k hk h oa ob kk)
    · exact JI.tabInI hG 700 (by decide) dL_law_32 (by decide) (by decide) (off := 668) rfl rfl (lc_18 hG hS hcs hadX hadM k hk h oa ob kk)
    · exact JI.tabInI hG 733 (by decide) dL_law_32 (by decide) (by decide) (off := 701) rfl rfl (lc_19 hG hS hcs hadX hadM k hk h oa ob kk)
    · exact JI.tabInI hG 756 (by decide) dL_law_32 (by decide) (by decide) (off := 724) rfl rfl (lc_20 hG hS hcs hadX hadM k hk h oa ob kk)
    · exact JI.tabInI hG 809 (by decide) dL_law_32 (by decide) (by decide) (off := 777) rfl rfl (lc_21 hG hS hcs hadX hadM k hk h oa ob kk)
    · exact JI.tabInI hG 852 (by decide) dL_law_32 (by decide) (by decide) (off := 820) rfl rfl (lc_22 hG hS hcs hadX hadM k hk h oa ob kk)
    · exact JI.tabInI hG 895 (by decide) dL_law_32 (by decide) (by decide) (off := 863) rfl rfl (lc_23 hG hS hcs hadX hadM k hk h oa ob kk)
    · exact JI.tabInI hG 908 (by decide) dL_law_32 (by decide) (by decide) (off := 876) rfl rfl (lc_24 hG hS hcs hadX hadM k hk h oa ob kk)
    · exact JI.tabInI hG 931 (by decide) dL_law_32 (by decide) (by decide) (off := 899) rfl rfl (lc_25 hG hS hcs hadX hadM k hk h oa ob kk)
    · exact JI.tabInI hG 964 (by decide) dL_law_32 (by decide) (by decide) (off := 932) rfl rfl (lc_26 hG hS hcs hadX hadM k hk h oa ob kk)
    · exact JI.tabInI hG 977 (by decide) dL_law_32 (by decide) (by decide) (off := 945) rfl rfl (lc_27 hG hS hcs hadX hadM k hk h oa ob kk)
    · exact JI.tabInI hG 1010 (by decide) dL_law_32 (by decide) (by decide) (off := 978) rfl rfl (lc_28 hG hS hcs hadX hadM k hk h oa ob kk)
    · exact JI.tabInI hG 1033 (by decide) dL_law_32 (by decide) (by decide) (off := 1001) rfl rfl (lc_29 hG hS hcs hadX hadM k hk h oa ob kk)
    · exact JI.tabInI hG 1056 (by decide) dL_law_32 (by decide) (by decide) (off := 1024) rfl rfl (lc_30 hG hS hcs hadX hadM k hk h oa ob kk)
    · exact JI.tabInI hG 1079 (by decide) dL_law_32 (by decide) (by decide) (off := 1047) rfl rfl (lc_31 hG hS hcs hadX hadM k hk h oa ob kk)
set_option maxRecDepth 100000 in
set_option maxHeartbeats 4000000 in
theorem law_start {X : CxI} (hG : GI X RL cL_law 4 9 600000 7302250 342) {b0 Ln : Nat} {xs : Nat → Int32} (hS : Scr X b0 Ln xs) (hLn : Ln ≤ 320) (hend : ∀ (L : List (Nat × Value)) (ws : va_W) (nc ns : Nat), nc ≤ 600000 → ns ≤ 7302250 → JI X 4 1099 L [] ws nc ns) : JI X 4 0 [(0, .ref b0)] [] [] 0 0 := by
  refine JI.new hG ciX6 cl_L_7 inst_X6 ini_X6 (fs := [.null, .null, .null, .null, .null, .null, .null, .null, .null, .null, .long 0]) (fun j hj => by rcases (show j = 0 ∨ j = 1 ∨ j = 2 ∨ j = 3 ∨ j = 4 ∨ j = 5 ∨ j = 6 ∨ j = 7 ∨ j = 8 ∨ j = 9 ∨ j = 10 by omega) with rfl | rfl | rfl | rfl | rfl | rfl | rfl | rfl | rfl | rfl | rfl <;> rfl) (Nat.le_of_ble_eq_true rfl) (Nat.le_of_ble_eq_true rfl) dL_law_0 (fun qx => ?_)
  refine JI.dup hG dL_law_3 ?_
  refine JI.callI hG ic_X6 ok_X6_init ml_L_9 (Nat.le_of_ble_eq_true rfl) ⟨Nat.le_of_ble_eq_true rfl, Nat.le_of_ble_eq_true rfl⟩ ⟨Nat.le_of_ble_eq_true rfl, Nat.le_of_ble_eq_true rfl⟩ dL_law_4 (fun w1 hw1 => ?_)
  obtain ⟨adX, h0, hw1⟩ := hw1
  subst h0
  refine JI.astore_n hG 1 dL_law_7 rfl (Nat.le_of_ble_eq_true rfl) (L' := [(1, .ref (adX 0)), (0, .ref b0)]) rfl ?_
  refine JI.eqw (ws' := wOf TX adX (cAX X) muX0) ((List.nil_append w1).trans hw1) ?_
  refine JI.new hG ciX7 cl_L_10 inst_X7 ini_X7 (fs := [.int 0, .long 0, .null, .int 0, .int 0, .int 0, .int 0, .int 0, .int 0, .null, .null, .null, .null, .null, .int 0, .int 0, .int 0, .int 0, .int 0, .int 0, .int 0, .int 0, .null, .null, .null, .null, .null, .int 0, .null, .null, .int 0, .null, .null, .null, .int 0, .null, .null, .null, .null]) (fun j hj => by rcases (show j = 0 ∨ j = 1 ∨ j = 2 ∨ j = 3 ∨ j = 4 ∨ j = 5 ∨ j = 6 ∨ j = 7 ∨ j = 8 ∨ j = 9 ∨ j = 10 ∨ j = 11 ∨ j = 12 ∨ j = 13 ∨ j = 14 ∨ j = 15 ∨ j = 16 ∨ j = 17 ∨ j = 18 ∨ j = 19 ∨ j = 20 ∨ j = 21 ∨ j = 22 ∨ j = 23 ∨ j = 24 ∨ j = 25 ∨ j = 26 ∨ j = 27 ∨ j = 28 ∨ j = 29 ∨ j = 30 ∨ j = 31 ∨ j = 32 ∨ j = 33 ∨ j = 34 ∨ j = 35 ∨ j = 36 ∨ j = 37 ∨ j = 38 by omega) with rfl | rfl | rfl | rfl | rfl | rfl | rfl | rfl | rfl | rfl | rfl | rfl | rfl | rfl | rfl | rfl | rfl | rfl | rfl | rfl | rfl | rfl | rfl | rfl | rfl | rfl | rfl | rfl | rfl | rfl | rfl | rfl | rfl | rfl | rfl | rfl | rfl | rfl | rfl <;> rfl) (Nat.le_of_ble_eq_true rfl) (Nat.le_of_ble_eq_true rfl) dL_law_8 (fun qm => ?_)
  refine JI.dup hG dL_law_11 ?_
  refine JI.callI hG ic_X7 ok_X7_init ml_L_12 (Nat.le_of_ble_eq_true rfl) ⟨Nat.le_of_ble_eq_true rfl, Nat.le_of_ble_eq_true rfl⟩ ⟨Nat.le_of_ble_eq_true rfl, Nat.le_of_ble_eq_true rfl⟩ dL_law_12 (fun w2 hw2 => ?_)
  obtain ⟨adM, h0, hw2⟩ := hw2
  subst h0
  refine JI.eqw (ws' := wOf TX adX (cAX X) muX0 ++ wOf TM adM (cAX X) muM0) (congrArg (fun z => wOf TX adX (cAX X) muX0 ++ z) hw2) ?_
  refine JI.astore_n hG 2 dL_law_15 rfl (Nat.le_of_ble_eq_true rfl) (L' := [(2, .ref (adM 0)), (1, .ref (adX 0)), (0, .ref b0)]) rfl ?_
  refine JI.iconst hG (Int32.ofInt 0) dL_law_16 rfl ?_
  refine JI.istore_n hG 3 dL_law_17 rfl (Nat.le_of_ble_eq_true rfl) (L' := [(3, .int (Int32.ofInt 0)), (2, .ref (adM 0)), (1, .ref (adX 0)), (0, .ref b0)]) rfl ?_
  refine JI.comm (JI.useD (fun hD => ?_))
  exact law_loop hG hS hLn ⟨Nat.le_of_ble_eq_true rfl, Nat.le_of_ble_eq_true rfl⟩ (inj_of hD.rgt) (inj_of hD.lft) (fun L ws => hend L ws _ _ (Nat.le_of_ble_eq_true rfl) (Nat.le_of_ble_eq_true rfl)) 64 0 (Int.le_refl _) (by omega) (by omega) muX0 muM0 Sim_0 okM_X0 okM_M0

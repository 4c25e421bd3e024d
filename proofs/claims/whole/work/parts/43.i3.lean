abbrev mi_X6 : MdI := (yX6_init, cX6_init, 2, 3, 84, 1265, 71)
theorem ok_X6_init : OkI mi_X6 := ⟨cd_X6_init, ini_X6, im_X6_init, rfl, by decide +kernel, by decide +kernel, by decide +kernel⟩
set_option maxRecDepth 100000 in
set_option maxHeartbeats 4000000 in
theorem ic_X6 : InitC mi_X6 6 [.null, .null, .null, .null, .null, .null, .null, .null, .null, .null, .long 0] (fun cA h0 w => ∃ ad : Nat → Nat, ad 0 = h0 ∧ w = wOf TX ad cA muX0) := by
  refine InitC.of (by decide) rfl (Nat.le_of_ble_eq_true rfl) (fun X h0 hG hin hQ => ?_)
  have hG : GI X RX6 cX6_init 2 3 84 1265 71 := hG
  show JI X 2 0 [(0, .ref h0)] [] [(h0, .inr (6, [.null, .null, .null, .null, .null, .null, .null, .null, .null, .null, .long 0]))] 0 0
  refine JI.aload_n hG 0 0 dX6_init_0 rfl rfl ?_
  refine JI.objInit hG ml_X6_1 (Nat.le_of_ble_eq_true rfl) (Nat.le_of_ble_eq_true rfl) (Nat.le_of_ble_eq_true rfl) dX6_init_1 ?_
  refine JI.aload_n hG 0 0 dX6_init_4 rfl rfl ?_
  refine JI.new hG ciX5 cl_X6_7 inst_X5 ini_X5 (fs := [.int 0, .null, .null, .null, .null, .null, .int 0, .int 0, .int 0, .int 0]) (fun j hj => by rcases (show j = 0 ∨ j = 1 ∨ j = 2 ∨ j = 3 ∨ j = 4 ∨ j = 5 ∨ j = 6 ∨ j = 7 ∨ j = 8 ∨ j = 9 by omega) with rfl | rfl | rfl | rfl | rfl | rfl | rfl | rfl | rfl | rfl <;> rfl) (Nat.le_of_ble_eq_true rfl) (Nat.le_of_ble_eq_true rfl) dX6_init_5 (fun q5_0 => ?_)
  refine JI.dup hG dX6_init_8 ?_
  refine JI.callN hG ic_X5 ok_X5_init (by simp [nestW]) (Nat.le_of_ble_eq_true rfl) ⟨Nat.le_of_ble_eq_true rfl, Nat.le_of_ble_eq_true rfl⟩ ⟨Nat.le_of_ble_eq_true rfl, Nat.le_of_ble_eq_true rfl⟩ dX6_init_9 (fun w9_1 hw => ?_)
  obtain ⟨u9_1_q10_0, u9_1_u14_1_q26, u9_1_u14_1_q34, u9_1_u14_1_q42, u9_1_q21_1, u9_1_u25_2_q17, u9_1_u25_2_q24, u9_1_u25_2_q31, u9_1_q35, u9_1_q44, u9_1_q53, rfl⟩ := hw
  refine JI.eqw (ws' := (h0, .inr (6, [.null, .null, .null, .null, .null, .null, .null, .null, .null, .null, .long 0])) :: ((sh_X5 (cAX X) q5_0 u9_1_q10_0 u9_1_u14_1_q26 u9_1_u14_1_q34 u9_1_u14_1_q42 u9_1_q21_1 u9_1_u25_2_q17 u9_1_u25_2_q24 u9_1_u25_2_q31 u9_1_q35 u9_1_q44 u9_1_q53) ++ ([]))) (by first | (simp only [zI, zZ, zQ, List.append_assoc, List.cons_append, List.nil_append, List.append_nil]; done) | rfl) ?_
  refine JI.putF hG hin ciX6 0 (Nat.le_of_ble_eq_true rfl) fl_X6_10 rfl rfl rfl rfl (Nat.le_of_ble_eq_true rfl) (fs2 := [.ref q5_0, .null, .null, .null, .null, .null, .null, .null, .null, .null, .long 0]) rfl dX6_init_12 ?_
  refine JI.aload_n hG 0 0 dX6_init_15 rfl rfl ?_
  refine JI.new hG ciX1 cl_X6_16 inst_X1 ini_X1 (fs := [.int 0, .int 0, .int 0, .int 0, .null, .null, .null]) (fun j hj => by rcases (show j = 0 ∨ j = 1 ∨ j = 2 ∨ j = 3 ∨ j = 4 ∨ j = 5 ∨ j = 6 by omega) with rfl | rfl | rfl | rfl | rfl | rfl | rfl <;> rfl) (Nat.le_of_ble_eq_true rfl) (Nat.le_of_ble_eq_true rfl) dX6_init_16 (fun q16_1 => ?_)
  refine JI.dup hG dX6_init_19 ?_
  refine JI.callN hG ic_X1 ok_X1_init (by simp [nestW]) (Nat.le_of_ble_eq_true rfl) ⟨Nat.le_of_ble_eq_true rfl, Nat.le_of_ble_eq_true rfl⟩ ⟨Nat.le_of_ble_eq_true rfl, Nat.le_of_ble_eq_true rfl⟩ dX6_init_20 (fun w20_2 hw => ?_)
  obtain ⟨u20_2_q26, u20_2_q34, u20_2_q42, rfl⟩ := hw
  refine JI.eqw (ws' := (h0, .inr (6, [.ref q5_0, .null, .null, .null, .null, .null, .null, .null, .null, .null, .long 0])) :: ((sh_X5 (cAX X) q5_0 u9_1_q10_0 u9_1_u14_1_q26 u9_1_u14_1_q34 u9_1_u14_1_q42 u9_1_q21_1 u9_1_u25_2_q17 u9_1_u25_2_q24 u9_1_u25_2_q31 u9_1_q35 u9_1_q44 u9_1_q53) ++ ((sh_X1 (cAX X) q16_1 u20_2_q26 u20_2_q34 u20_2_q42) ++ ([])))) (by first | (simp only [zI, zZ, zQ, List.append_assoc, List.cons_append, List.nil_append, List.append_nil]; done) | rfl) ?_
  refine JI.putF hG hin ciX6 1 (Nat.le_of_ble_eq_true rfl) fl_X6_19 rfl rfl rfl rfl (Nat.le_of_ble_eq_true rfl) (fs2 := [.ref q5_0, .ref q16_1, .null, .null, .null, .null, .null, .null, .null, .null, .long 0]) rfl dX6_init_23 ?_
  refine JI.aload_n hG 0 0 dX6_init_26 rfl rfl ?_
  refine JI.new hG ciX2 cl_X6_23 inst_X2 ini_X2 (fs := [.int 0, .int 0, .null, .null, .null]) (fun j hj => by rcases (show j = 0 ∨ j = 1 ∨ j = 2 ∨ j = 3 ∨ j = 4 by omega) with rfl | rfl | rfl | rfl | rfl <;> rfl) (Nat.le_of_ble_eq_true rfl) (Nat.le_of_ble_eq_true rfl) dX6_init_27 (fun q27_2 => ?_)
  refine JI.dup hG dX6_init_30 ?_
  refine JI.callN hG ic_X2 ok_X2_init (by simp [nestW]) (Nat.le_of_ble_eq_true rfl) ⟨Nat.le_of_ble_eq_true rfl, Nat.le_of_ble_eq_true rfl⟩ ⟨Nat.le_of_ble_eq_true rfl, Nat.le_of_ble_eq_true rfl⟩ dX6_init_31 (fun w31_3 hw => ?_)
  obtain ⟨u31_3_q17, u31_3_q24, u31_3_q31, rfl⟩ := hw
  refine JI.eqw (ws' := (h0, .inr (6, [.ref q5_0, .ref q16_1, .null, .null, .null, .null, .null, .null, .null, .null, .long 0])) :: ((sh_X5 (cAX X) q5_0 u9_1_q10_0 u9_1_u14_1_q26 u9_1_u14_1_q34 u9_1_u14_1_q42 u9_1_q21_1 u9_1_u25_2_q17 u9_1_u25_2_q24 u9_1_u25_2_q31 u9_1_q35 u9_1_q44 u9_1_q53) ++ ((sh_X1 (cAX X) q16_1 u20_2_q26 u20_2_q34 u20_2_q42) ++ ((sh_X2 (cAX X) q27_2 u31_3_q17 u31_3_q24 u31_3_q31) ++ ([]))))) (by first | (simp only [zI, zZ, zQ, List.append_assoc, List.cons_append, List.nil_append, List.append_nil]; done) | rfl) ?_
  refine JI.putF hG hin ciX6 2 (Nat.le_of_ble_eq_true rfl) fl_X6_26 rfl rfl rfl rfl (Nat.le_of_ble_eq_true rfl) (fs2 := [.ref q5_0, .ref q16_1, .ref q27_2, .null, .null, .null, .null, .null, .null, .null, .long 0]) rfl dX6_init_34 ?_
  refine JI.aload_n hG 0 0 dX6_init_37 rfl rfl ?_
  refine JI.new hG ciX3 cl_X6_30 inst_X3 ini_X3 (fs := [.int 0, .int 0, .null]) (fun j hj => by rcases (show j = 0 ∨ j = 1 ∨ j = 2 by omega) with rfl | rfl | rfl <;> rfl) (Nat.le_of_ble_eq_true rfl) (Nat.le_of_ble_eq_true rfl) dX6_init_38 (fun q38_3 => ?_)
  refine JI.dup hG dX6_init_41 ?_
  refine JI.callI hG ic_X3 ok_X3_init ml_X6_32 (Nat.le_of_ble_eq_true rfl) ⟨Nat.le_of_ble_eq_true rfl, Nat.le_of_ble_eq_true rfl⟩ ⟨Nat.le_of_ble_eq_true rfl, Nat.le_of_ble_eq_true rfl⟩ dX6_init_42 (fun w42_4 hw => ?_)
  obtain ⟨u42_4_q17, u42_4_q36_0, u42_4_u40_1_q17, u42_4_u40_1_q24, u42_4_u40_1_q31, u42_4_q36_1, u42_4_u40_2_q17, u42_4_u40_2_q24, u42_4_u40_2_q31, u42_4_q36_2, u42_4_u40_3_q17, u42_4_u40_3_q24, u42_4_u40_3_q31, u42_4_q36_3, u42_4_u40_4_q17, u42_4_u40_4_q24, u42_4_u40_4_q31, u42_4_q36_4, u42_4_u40_5_q17, u42_4_u40_5_q24, u42_4_u40_5_q31, u42_4_q36_5, u42_4_u40_6_q17, u42_4_u40_6_q24, u42_4_u40_6_q31, u42_4_q36_6, u42_4_u40_7_q17, u42_4_u40_7_q24, u42_4_u40_7_q31, u42_4_q36_7, u42_4_u40_8_q17, u42_4_u40_8_q24, u42_4_u40_8_q31, u42_4_q36_8, u42_4_u40_9_q17, u42_4_u40_9_q24, u42_4_u40_9_q31, u42_4_q36_9, u42_4_u40_10_q17, u42_4_u40_10_q24, u42_4_u40_10_q31, rfl⟩ := hw
  refine JI.eqw (ws' := (h0, .inr (6, [.ref q5_0, .ref q16_1, .ref q27_2, .null, .null, .null, .null, .null, .null, .null, .long 0])) :: ((sh_X5 (cAX X) q5_0 u9_1_q10_0 u9_1_u14_1_q26 u9_1_u14_1_q34 u9_1_u14_1_q42 u9_1_q21_1 u9_1_u25_2_q17 u9_1_u25_2_q24 u9_1_u25_2_q31 u9_1_q35 u9_1_q44 u9_1_q53) ++ ((sh_X1 (cAX X) q16_1 u20_2_q26 u20_2_q34 u20_2_q42) ++ ((sh_X2 (cAX X) q27_2 u31_3_q17 u31_3_q24 u31_3_q31) ++ ((sh_X3 (cAX X) q38_3 u42_4_q17 u42_4_q36_0 u42_4_u40_1_q17 u42_4_u40_1_q24 u42_4_u40_1_q31 u42_4_q36_1 u42_4_u40_2_q17 u42_4_u40_2_q24 u42_4_u40_2_q31 u42_4_q36_2 u42_4_u40_3_q17 u42_4_u40_3_q24 u42_4_u40_3_q31 u42_4_q36_3 u42_4_u40_4_q17 u42_4_u40_4_q24 u42_4_u40_4_q31 u42_4_q36_4 u42_4_u40_5_q17 u42_4_u40_5_q24 u42_4_u40_5_q31 u42_4_q36_5 u42_4_u40_6_q17 u42_4_u40_6_q24 u42_4_u40_6_q31 u42_4_q36_6 u42_4_u40_7_q17 u42_4_u40_7_q24 u42_4_u40_7_q31 u42_4_q36_7 u42_4_u40_8_q17 u42_4_u40_8_q24 u42_4_u40_8_q31 u42_4_q36_8 u42_4_u40_9_q17 u42_4_u40_9_q24 u42_4_u40_9_q31 u42_4_q36_9 u42_4_u40_10_q17 u42_4_u40_10_q24 u42_4_u40_10_q31) ++ ([])))))) (by first | (simp only [zI, zZ, zQ, List.append_assoc, List.cons_append, List.nil_append, List.append_nil]; done) | rfl) ?_
  refine JI.putF hG hin ciX6 3 (Nat.le_of_ble_eq_true rfl) fl_X6_33 rfl rfl rfl rfl (Nat.le_of_ble_eq_true rfl) (fs2 := [.ref q5_0, .ref q16_1, .ref q27_2, .ref q38_3, .null, .null, .null, .null, .null, .null, .long 0]) rfl dX6_init_45 ?_
  refine JI.aload_n hG 0 0 dX6_init_48 rfl rfl ?_
  refine JI.iconst hG (2) dX6_init_49 rfl ?_
  refine JI.newQ hG cl_X6_23 (by decide) (N := 2) rfl (by decide) (Nat.le_of_ble_eq_true rfl) (Nat.le_of_ble_eq_true rfl) dX6_init_50 (fun q50 => ?_)
  refine JI.eqw (ws' := (h0, .inr (6, [.ref q5_0, .ref q16_1, .ref q27_2, .ref q38_3, .null, .null, .null, .null, .null, .null, .long 0])) :: ((sh_X5 (cAX X) q5_0 u9_1_q10_0 u9_1_u14_1_q26 u9_1_u14_1_q34 u9_1_u14_1_q42 u9_1_q21_1 u9_1_u25_2_q17 u9_1_u25_2_q24 u9_1_u25_2_q31 u9_1_q35 u9_1_q44 u9_1_q53) ++ ((sh_X1 (cAX X) q16_1 u20_2_q26 u20_2_q34 u20_2_q42) ++ ((sh_X2 (cAX X) q27_2 u31_3_q17 u31_3_q24 u31_3_q31) ++ ((sh_X3 (cAX X) q38_3 u42_4_q17 u42_4_q36_0 u42_4_u40_1_q17 u42_4_u40_1_q24 u42_4_u40_1_q31 u42_4_q36_1 u42_4_u40_2_q17 u42_4_u40_2_q24 u42_4_u40_2_q31 u42_4_q36_2 u42_4_u40_3_q17 u42_4_u40_3_q24 u42_4_u40_3_q31 u42_4_q36_3 u42_4_u40_4_q17 u42_4_u40_4_q24 u42_4_u40_4_q31 u42_4_q36_4 u42_4_u40_5_q17 u42_4_u40_5_q24 u42_4_u40_5_q31 u42_4_q36_5 u42_4_u40_6_q17 u42_4_u40_6_q24 u42_4_u40_6_q31 u42_4_q36_6 u42_4_u40_7_q17 u42_4_u40_7_q24 u42_4_u40_7_q31 u42_4_q36_7 u42_4_u40_8_q17 u42_4_u40_8_q24 u42_4_u40_8_q31 u42_4_q36_8 u42_4_u40_9_q17 u42_4_u40_9_q24 u42_4_u40_9_q31 u42_4_q36_9 u42_4_u40_10_q17 u42_4_u40_10_q24 u42_4_u40_10_q31) ++ (zQ (cAX X) q50 2 (noQ) :: ([]))))))) (by first | (simp only [zI, zZ, zQ, List.append_assoc, List.cons_append, List.nil_append, List.append_nil]; done) | rfl) ?_
  refine JI.putF hG hin ciX6 4 (Nat.le_of_ble_eq_true rfl) fl_X6_37 rfl rfl rfl rfl (Nat.le_of_ble_eq_true rfl) (fs2 := [.ref q5_0, .ref q16_1, .ref q27_2, .ref q38_3, .ref q50, .null, .null, .null, .null, .null, .long 0]) rfl dX6_init_53 ?_
  refine JI.aload_n hG 0 0 dX6_init_56 rfl rfl ?_
  refine JI.iconst hG (2) dX6_init_57 rfl ?_
  refine JI.newZ hG (by decide) (N := 2) rfl (by decide) (Nat.le_of_ble_eq_true rfl) (Nat.le_of_ble_eq_true rfl) dX6_init_58 (fun q58 => ?_)
  refine JI.eqw (ws' := (h0, .inr (6, [.ref q5_0, .ref q16_1, .ref q27_2, .ref q38_3, .ref q50, .null, .null, .null, .null, .null, .long 0])) :: ((sh_X5 (cAX X) q5_0 u9_1_q10_0 u9_1_u14_1_q26 u9_1_u14_1_q34 u9_1_u14_1_q42 u9_1_q21_1 u9_1_u25_2_q17 u9_1_u25_2_q24 u9_1_u25_2_q31 u9_1_q35 u9_1_q44 u9_1_q53) ++ ((sh_X1 (cAX X) q16_1 u20_2_q26 u20_2_q34 u20_2_q42) ++ ((sh_X2 (cAX X) q27_2 u31_3_q17 u31_3_q24 u31_3_q31) ++ ((sh_X3 (cAX X) q38_3 u42_4_q17 u42_4_q36_0 u42_4_u40_1_q17 u42_4_u40_1_q24 u42_4_u40_1_q31 u42_4_q36_1 u42_4_u40_2_q17 u42_4_u40_2_q24 u42_4_u40_2_q31 u42_4_q36_2 u42_4_u40_3_q17 u42_4_u40_3_q24 u42_4_u40_3_q31 u42_4_q36_3 u42_4_u40_4_q17 u42_4_u40_4_q24 u42_4_u40_4_q31 u42_4_q36_4 u42_4_u40_5_q17 u42_4_u40_5_q24 u42_4_u40_5_q31 u42_4_q36_5 u42_4_u40_6_q17 u42_4_u40_6_q24 u42_4_u40_6_q31 u42_4_q36_6 u42_4_u40_7_q17 u42_4_u40_7_q24 u42_4_u40_7_q31 u42_4_q36_7 u42_4_u40_8_q17 u42_4_u40_8_q24 u42_4_u40_8_q31 u42_4_q36_8 u42_4_u40_9_q17 u42_4_u40_9_q24 u42_4_u40_9_q31 u42_4_q36_9 u42_4_u40_10_q17 u42_4_u40_10_q24 u42_4_u40_10_q31) ++ (zQ (cAX X) q50 2 (noQ) :: (zZ (cAX X) q58 2 :: ([])))))))) (by first | (simp only [zI, zZ, zQ, List.append_assoc, List.cons_append, List.nil_append, List.append_nil]; done) | rfl) ?_
  refine JI.putF hG hin ciX6 5 (Nat.le_of_ble_eq_true rfl) fl_X6_41 rfl rfl rfl rfl (Nat.le_of_ble_eq_true rfl) (fs2 := [.ref q5_0, .ref q16_1, .ref q27_2, .ref q38_3, .ref q50, .ref q58, .null, .null, .null, .null, .long 0]) rfl dX6_init_60 ?_
  refine JI.aload_n hG 0 0 dX6_init_63 rfl rfl ?_
  refine JI.new hG ciX0 cl_X6_45 inst_X0 ini_X0 (fs := [.int 0, .null, .null, .null, .null, .null]) (fun j hj => by rcases (show j = 0 ∨ j = 1 ∨ j = 2 ∨ j = 3 ∨ j = 4 ∨ j = 5 by omega) with rfl | rfl | rfl | rfl | rfl | rfl <;> rfl) (Nat.le_of_ble_eq_true rfl) (Nat.le_of_ble_eq_true rfl) dX6_init_64 (fun q64_4 => ?_)
  refine JI.dup hG dX6_init_67 ?_
  refine JI.callN hG ic_X0 ok_X0_init (by simp [nestW]) (Nat.le_of_ble_eq_true rfl) ⟨Nat.le_of_ble_eq_true rfl, Nat.le_of_ble_eq_true rfl⟩ ⟨Nat.le_of_ble_eq_true rfl, Nat.le_of_ble_eq_true rfl⟩ dX6_init_68 (fun w68_5 hw => ?_)
  obtain ⟨u68_5_q11, u68_5_q18, u68_5_q25, u68_5_q32, u68_5_q39, rfl⟩ := hw
  refine JI.eqw (ws' := (h0, .inr (6, [.ref q5_0, .ref q16_1, .ref q27_2, .ref q38_3, .ref q50, .ref q58, .null, .null, .null, .null, .long 0])) :: ((sh_X5 (cAX X) q5_0 u9_1_q10_0 u9_1_u14_1_q26 u9_1_u14_1_q34 u9_1_u14_1_q42 u9_1_q21_1 u9_1_u25_2_q17 u9_1_u25_2_q24 u9_1_u25_2_q31 u9_1_q35 u9_1_q44 u9_1_q53) ++ ((sh_X1 (cAX X) q16_1 u20_2_q26 u20_2_q34 u20_2_q42) ++ ((sh_X2 (cAX X) q27_2 u31_3_q17 u31_3_q24 u31_3_q31) ++ ((sh_X3 (cAX X) q38_3 u42_4_q17 u42_4_q36_0 u42_4_u40_1_q17 u42_4_u40_1_q24 u42_4_u40_1_q31 u42_4_q36_1 u42_4_u40_2_q17 u42_4_u40_2_q24 u42_4_u40_2_q31 u42_4_q36_2 u42_4_u40_3_q17 u42_4_u40_3_q24 u42_4_u40_3_q31 u42_4_q36_3 u42_4_u40_4_q17 u42_4_u40_4_q24 u42_4_u40_4_q31 u42_4_q36_4 u42_4_u40_5_q17 u42_4_u40_5_q24 u42_4_u40_5_q31 u42_4_q36_5 u42_4_u40_6_q17 u42_4_u40_6_q24 u42_4_u40_6_q31 u42_4_q36_6 u42_4_u40_7_q17 u42_4_u40_7_q24 u42_4_u40_7_q31 u42_4_q36_7 u42_4_u40_8_q17 u42_4_u40_8_q24 u42_4_u40_8_q31 u42_4_q36_8 u42_4_u40_9_q17 u42_4_u40_9_q24 u42_4_u40_9_q31 u42_4_q36_9 u42_4_u40_10_q17 u42_4_u40_10_q24 u42_4_u40_10_q31) ++ (zQ (cAX X) q50 2 (noQ) :: (zZ (cAX X) q58 2 :: ((sh_X0 (cAX X) q64_4 u68_5_q11 u68_5_q18 u68_5_q25 u68_5_q32 u68_5_q39) ++ ([]))))))))) (by first | (simp only [zI, zZ, zQ, List.append_assoc, List.cons_append, List.nil_append, List.append_nil]; done) | rfl) ?_
  refine JI.putF hG hin ciX6 6 (Nat.le_of_ble_eq_true rfl) fl_X6_48 rfl rfl rfl rfl (Nat.le_of_ble_eq_true rfl) (fs2 := [.ref q5_0, .ref q16_1, .ref q27_2, .ref q38_3, .ref q50, .ref q58, .ref q64_4, .null, .null, .null, .long 0]) rfl dX6_init_71 ?_
  refine JI.aload_n hG 0 0 dX6_init_74 rfl rfl ?_
  refine JI.new hG ciX4 cl_X6_52 inst_X4 ini_X4 (fs := [.int 0, .null, .null, .null]) (fun j hj => by rcases (show j = 0 ∨ j = 1 ∨ j = 2 ∨ j = 3 by omega) with rfl | rfl | rfl | rfl <;> rfl) (Nat.le_of_ble_eq_true rfl) (Nat.le_of_ble_eq_true rfl) dX6_init_75 (fun q75_5 => ?_)
  refine JI.dup hG dX6_init_78 ?_
  refine JI.callN hG ic_X4 ok_X4_init (by simp [nestW]) (Nat.le_of_ble_eq_true rfl) ⟨Nat.le_of_ble_eq_true rfl, Nat.le_of_ble_eq_true rfl⟩ ⟨Nat.le_of_ble_eq_true rfl, Nat.le_of_ble_eq_true rfl⟩ dX6_init_79 (fun w79_6 hw => ?_)
  obtain ⟨u79_6_q12, u79_6_q20, u79_6_q28, rfl⟩ := hw
  refine JI.eqw (ws' := (h0, .inr (6, [.ref q5_0, .ref q16_1, .ref q27_2, .ref q38_3, .ref q50, .ref q58, .ref q64_4, .null, .null, .null, .long 0])) :: ((sh_X5 (cAX X) q5_0 u9_1_q10_0 u9_1_u14_1_q26 u9_1_u14_1_q34 u9_1_u14_1_q42 u9_1_q21_1 u9_1_u25_2_q17 u9_1_u25_2_q24 u9_1_u25_2_q31 u9_1_q35 u9_1_q44 u9_1_q53) ++ ((sh_X1 (cAX X) q16_1 u20_2_q26 u20_2_q34 u20_2_q42) ++ ((sh_X2 (cAX X) q27_2 u31_3_q17 u31_3_q24 u31_3_q31) ++ ((sh_X3 (cAX X) q38_3 u42_4_q17 u42_4_q36_0 u42_4_u40_1_q17 u42_4_u40_1_q24 u42_4_u40_1_q31 u42_4_q36_1 u42_4_u40_2_q17 u42_4_u40_2_q24 u42_4_u40_2_q31 u42_4_q36_2 u42_4_u40_3_q17 u42_4_u40_3_q24 u42_4_u40_3_q31 u42_4_q36_3 u42_4_u40_4_q17 u42_4_u40_4_q24 u42_4_u40_4_q31 u42_4_q36_4 u42_4_u40_5_q17 u42_4_u40_5_q24 u42_4_u40_5_q31 u42_4_q36_5 u42_4_u40_6_q17 u42_4_u40_6_q24 u42_4_u40_6_q31 u42_4_q36_6 u42_4_u40_7_q17 u42_4_u40_7_q24 u42_4_u40_7_q31 u42_4_q36_7 u42_4_u40_8_q17 u42_4_u40_8_q24 u42_4_u40_8_q31 u42_4_q36_8 u42_4_u40_9_q17 u42_4_u40_9_q24 u42_4_u40_9_q31 u42_4_q36_9 u42_4_u40_10_q17 u42_4_u40_10_q24 u42_4_u40_10_q31) ++ (zQ (cAX X) q50 2 (noQ) :: (zZ (cAX X) q58 2 :: ((sh_X0 (cAX X) q64_4 u68_5_q11 u68_5_q18 u68_5_q25 u68_5_q32 u68_5_q39) ++ ((sh_X4 (cAX X) q75_5 u79_6_q12 u79_6_q20 u79_6_q28) ++ ([])))))))))) (by first | (simp only [zI, zZ, zQ, List.append_assoc, List.cons_append, List.nil_append, List.append_nil]; done) | rfl) ?_
  refine JI.putF hG hin ciX6 7 (Nat.le_of_ble_eq_true rfl) fl_X6_55 rfl rfl rfl rfl (Nat.le_of_ble_eq_true rfl) (fs2 := [.ref q5_0, .ref q16_1, .ref q27_2, .ref q38_3, .ref q50, .ref q58, .ref q64_4, .ref q75_5, .null, .null, .long 0]) rfl dX6_init_82 ?_
  refine JI.aload_n hG 0 0 dX6_init_85 rfl rfl ?_
  refine JI.bipush hG (8) dX6_init_86 rfl ?_
  refine JI.newI hG (by decide) (N := 8) rfl (by decide) (Nat.le_of_ble_eq_true rfl) (Nat.le_of_ble_eq_true rfl) dX6_init_88 (fun q88 => ?_)
  refine JI.eqw (ws' := (h0, .inr (6, [.ref q5_0, .ref q16_1, .ref q27_2, .ref q38_3, .ref q50, .ref q58, .ref q64_4, .ref q75_5, .null, .null, .long 0])) :: ((sh_X5 (cAX X) q5_0 u9_1_q10_0 u9_1_u14_1_q26 u9_1_u14_1_q34 u9_1_u14_1_q42 u9_1_q21_1 u9_1_u25_2_q17 u9_1_u25_2_q24 u9_1_u25_2_q31 u9_1_q35 u9_1_q44 u9_1_q53) ++ ((sh_X1 (cAX X) q16_1 u20_2_q26 u20_2_q34 u20_2_q42) ++ ((sh_X2 (cAX X) q27_2 u31_3_q17 u31_3_q24 u31_3_q31) ++ ((sh_X3 (cAX X) q38_3 u42_4_q17 u42_4_q36_0 u42_4_u40_1_q17 u42_4_u40_1_q24 u42_4_u40_1_q31 u42_4_q36_1 u42_4_u40_2_q17 u42_4_u40_2_q24 u42_4_u40_2_q31 u42_4_q36_2 u42_4_u40_3_q17 u42_4_u40_3_q24 u42_4_u40_3_q31 u42_4_q36_3 u42_4_u40_4_q17 u42_4_u40_4_q24 u42_4_u40_4_q31 u42_4_q36_4 u42_4_u40_5_q17 u42_4_u40_5_q24 u42_4_u40_5_q31 u42_4_q36_5 u42_4_u40_6_q17 u42_4_u40_6_q24 u42_4_u40_6_q31 u42_4_q36_6 u42_4_u40_7_q17 u42_4_u40_7_q24 u42_4_u40_7_q31 u42_4_q36_7 u42_4_u40_8_q17 u42_4_u40_8_q24 u42_4_u40_8_q31 u42_4_q36_8 u42_4_u40_9_q17 u42_4_u40_9_q24 u42_4_u40_9_q31 u42_4_q36_9 u42_4_u40_10_q17 u42_4_u40_10_q24 u42_4_u40_10_q31) ++ (zQ (cAX X) q50 2 (noQ) :: (zZ (cAX X) q58 2 :: ((sh_X0 (cAX X) q64_4 u68_5_q11 u68_5_q18 u68_5_q25 u68_5_q32 u68_5_q39) ++ ((sh_X4 (cAX X) q75_5 u79_6_q12 u79_6_q20 u79_6_q28) ++ (zI (cAX X) q88 8 :: ([]))))))))))) (by first | (simp only [zI, zZ, zQ, List.append_assoc, List.cons_append, List.nil_append, List.append_nil]; done) | rfl) ?_
  refine JI.putF hG hin ciX6 8 (Nat.le_of_ble_eq_true rfl) fl_X6_59 rfl rfl rfl rfl (Nat.le_of_ble_eq_true rfl) (fs2 := [.ref q5_0, .ref q16_1, .ref q27_2, .ref q38_3, .ref q50, .ref q58, .ref q64_4, .ref q75_5, .ref q88, .null, .long 0]) rfl dX6_init_90 ?_
  refine JI.aload_n hG 0 0 dX6_init_93 rfl rfl ?_
  refine JI.bipush hG (100) dX6_init_94 rfl ?_
  refine JI.newI hG (by decide) (N := 100) rfl (by decide) (Nat.le_of_ble_eq_true rfl) (Nat.le_of_ble_eq_true rfl) dX6_init_96 (fun q96 => ?_)
  refine JI.eqw (ws' := (h0, .inr (6, [.ref q5_0, .ref q16_1, .ref q27_2, .ref q38_3, .ref q50, .ref q58, .ref q64_4, .ref q75_5, .ref q88, .null, .long 0])) :: ((sh_X5 (cAX X) q5_0 u9_1_q10_0 u9_1_u14_1_q26 u9_1_u14_1_q34 u9_1_u14_1_q42 u9_1_q21_1 u9_1_u25_2_q17 u9_1_u25_2_q24 u9_1_u25_2_q31 u9_1_q35 u9_1_q44 u9_1_q53) ++ ((sh_X1 (cAX X) q16_1 u20_2_q26 u20_2_q34 u20_2_q42) ++ ((sh_X2 (cAX X) q27_2 u31_3_q17 u31_3_q24 u31_3_q31) ++ ((sh_X3 (cAX X) q38_3 u42_4_q17 u42_4_q36_0 u42_4_u40_1_q17 u42_4_u40_1_q24 u42_4_u40_1_q31 u42_4_q36_1 u42_4_u40_2_q17 u42_4_u40_2_q24 u42_4_u40_2_q31 u42_4_q36_2 u42_4_u40_3_q17 u42_4_u40_3_q24 u42_4_u40_3_q31 u42_4_q36_3 u42_4_u40_4_q17 u42_4_u40_4_q24 u42_4_u40_4_q31 u42_4_q36_4 u42_4_u40_5_q17 u42_4_u40_5_q24 u42_4_u40_5_q31 u42_4_q36_5 u42_4_u40_6_q17 u42_4_u40_6_q24 u42_4_u40_6_q31 u42_4_q36_6 u42_4_u40_7_q17 u42_4_u40_7_q24 u42_4_u40_7_q31 u42_4_q36_7 u42_4_u40_8_q17 u42_4_u40_8_q24 u42_4_u40_8_q31 u42_4_q36_8 u42_4_u40_9_q17 u42_4_u40_9_q24 u42_4_u40_9_q31 u42_4_q36_9 u42_4_u40_10_q17 u42_4_u40_10_q24 u42_4_u40_10_q31) ++ (zQ (cAX X) q50 2 (noQ) :: (zZ (cAX X) q58 2 :: ((sh_X0 (cAX X) q64_4 u68_5_q11 u68_5_q18 u68_5_q25 u68_5_q32 u68_5_q39) ++ ((sh_X4 (cAX X) q75_5 u79_6_q12 u79_6_q20 u79_6_q28) ++ (zI (cAX X) q88 8 :: (zI (cAX X) q96 100 :: ([])))))))))))) (by first | (simp only [zI, zZ, zQ, List.append_assoc, List.cons_append, List.nil_append, List.append_nil]; done) | rfl) ?_
  refine JI.putF hG hin ciX6 9 (Nat.le_of_ble_eq_true rfl) fl_X6_63 rfl rfl rfl rfl (Nat.le_of_ble_eq_true rfl) (fs2 := [.ref q5_0, .ref q16_1, .ref q27_2, .ref q38_3, .ref q50, .ref q58, .ref q64_4, .ref q75_5, .ref q88, .ref q96, .long 0]) rfl dX6_init_98 ?_
  refine JI.aload_n hG 0 0 dX6_init_101 rfl rfl ?_
  refine JI.lconst hG 0 dX6_init_102 rfl ?_
  refine JI.put hG ciX6 10 (Nat.le_of_ble_eq_true rfl) fl_X6_66 rfl rfl rfl (Nat.le_of_ble_eq_true rfl) (fs2 := [.ref q5_0, .ref q16_1, .ref q27_2, .ref q38_3, .ref q50, .ref q58, .ref q64_4, .ref q75_5, .ref q88, .ref q96, .long 0]) rfl dX6_init_103 ?_
  refine JI.iconst hG (0) dX6_init_106 rfl ?_
  refine JI.istore_n hG 1 dX6_init_107 rfl (Nat.le_of_ble_eq_true rfl) (L' := [(1, .int 0), (0, .ref h0)]) rfl ?_
  refine JI.iload_n hG 0 1 dX6_init_108 rfl rfl ?_
  refine JI.iconst hG (2) dX6_init_109 rfl ?_
  refine JI.icmp_ge hG 132 dX6_init_110 rfl (fun h => absurd h (by decide)) (fun _ => ?_)
  refine JI.aload_n hG 1 0 dX6_init_113 rfl rfl ?_
  refine JI.getR hG ciX6 4 (Nat.le_of_ble_eq_true rfl) fl_X6_37 rfl dX6_init_114 ?_
  refine JI.iload_n hG 0 1 dX6_init_117 rfl rfl ?_
  refine JI.new hG ciX2 cl_X6_23 inst_X2 ini_X2 (fs := [.int 0, .int 0, .null, .null, .null]) (fun j hj => by rcases (show j = 0 ∨ j = 1 ∨ j = 2 ∨ j = 3 ∨ j = 4 by omega) with rfl | rfl | rfl | rfl | rfl <;> rfl) (Nat.le_of_ble_eq_true rfl) (Nat.le_of_ble_eq_true rfl) dX6_init_118 (fun q118_6 => ?_)
  refine JI.dup hG dX6_init_121 ?_
  refine JI.callN hG ic_X2 ok_X2_init (by simp [nestW]) (Nat.le_of_ble_eq_true rfl) ⟨Nat.le_of_ble_eq_true rfl, Nat.le_of_ble_eq_true rfl⟩ ⟨Nat.le_of_ble_eq_true rfl, Nat.le_of_ble_eq_true rfl⟩ dX6_init_122 (fun w122_7 hw => ?_)
  obtain ⟨u122_7_q17, u122_7_q24, u122_7_q31, rfl⟩ := hw
  refine JI.eqw (ws' := (h0, .inr (6, [.ref q5_0, .ref q16_1, .ref q27_2, .ref q38_3, .ref q50, .ref q58, .ref q64_4, .ref q75_5, .ref q88, .ref q96, .long 0])) :: ((sh_X5 (cAX X) q5_0 u9_1_q10_0 u9_1_u14_1_q26 u9_1_u14_1_q34 u9_1_u14_1_q42 u9_1_q21_1 u9_1_u25_2_q17 u9_1_u25_2_q24 u9_1_u25_2_q31 u9_1_q35 u9_1_q44 u9_1_q53) ++ ((sh_X1 (cAX X) q16_1 u20_2_q26 u20_2_q34 u20_2_q42) ++ ((sh_X2 (cAX X) q27_2 u31_3_q17 u31_3_q24 u31_3_q31) ++ ((sh_X3 (cAX X) q38_3 u42_4_q17 u42_4_q36_0 u42_4_u40_1_q17 u42_4_u40_1_q24 u42_4_u40_1_q31 u42_4_q36_1 u42_4_u40_2_q17 u42_4_u40_2_q24 u42_4_u40_2_q31 u42_4_q36_2 u42_4_u40_3_q17 u42_4_u40_3_q24 u42_4_u40_3_q31 u42_4_q36_3 u42_4_u40_4_q17 u42_4_u40_4_q24 u42_4_u40_4_q31 u42_4_q36_4 u42_4_u40_5_q17 u42_4_u40_5_q24 u42_4_u40_5_q31 u42_4_q36_5 u42_4_u40_6_q17 u42_4_u40_6_q24 u42_4_u40_6_q31 u42_4_q36_6 u42_4_u40_7_q17 u42_4_u40_7_q24 u42_4_u40_7_q31 u42_4_q36_7 u42_4_u40_8_q17 u42_4_u40_8_q24 u42_4_u40_8_q31 u42_4_q36_8 u42_4_u40_9_q17 u42_4_u40_9_q24 u42_4_u40_9_q31 u42_4_q36_9 u42_4_u40_10_q17 u42_4_u40_10_q24 u42_4_u40_10_q31) ++ (zQ (cAX X) q50 2 (noQ) :: (zZ (cAX X) q58 2 :: ((sh_X0 (cAX X) q64_4 u68_5_q11 u68_5_q18 u68_5_q25 u68_5_q32 u68_5_q39) ++ ((sh_X4 (cAX X) q75_5 u79_6_q12 u79_6_q20 u79_6_q28) ++ (zI (cAX X) q88 8 :: (zI (cAX X) q96 100 :: ((sh_X2 (cAX X) q118_6 u122_7_q17 u122_7_q24 u122_7_q31) ++ ([]))))))))))))) (by first | (simp only [zI, zZ, zQ, List.append_assoc, List.cons_append, List.nil_append, List.append_nil]; done) | rfl) ?_
  refine JI.eqw (ws' := ((h0, .inr (6, [.ref q5_0, .ref q16_1, .ref q27_2, .ref q38_3, .ref q50, .ref q58, .ref q64_4, .ref q75_5, .ref q88, .ref q96, .long 0])) :: ((sh_X5 (cAX X) q5_0 u9_1_q10_0 u9_1_u14_1_q26 u9_1_u14_1_q34 u9_1_u14_1_q42 u9_1_q21_1 u9_1_u25_2_q17 u9_1_u25_2_q24 u9_1_u25_2_q31 u9_1_q35 u9_1_q44 u9_1_q53) ++ ((sh_X1 (cAX X) q16_1 u20_2_q26 u20_2_q34 u20_2_q42) ++ ((sh_X2 (cAX X) q27_2 u31_3_q17 u31_3_q24 u31_3_q31) ++ ((sh_X3 (cAX X) q38_3 u42_4_q17 u42_4_q36_0 u42_4_u40_1_q17 u42_4_u40_1_q24 u42_4_u40_1_q31 u42_4_q36_1 u42_4_u40_2_q17 u42_4_u40_2_q24 u42_4_u40_2_q31 u42_4_q36_2 u42_4_u40_3_q17 u42_4_u40_3_q24 u42_4_u40_3_q31 u42_4_q36_3 u42_4_u40_4_q17 u42_4_u40_4_q24 u42_4_u40_4_q31 u42_4_q36_4 u42_4_u40_5_q17 u42_4_u40_5_q24 u42_4_u40_5_q31 u42_4_q36_5 u42_4_u40_6_q17 u42_4_u40_6_q24 u42_4_u40_6_q31 u42_4_q36_6 u42_4_u40_7_q17 u42_4_u40_7_q24 u42_4_u40_7_q31 u42_4_q36_7 u42_4_u40_8_q17 u42_4_u40_8_q24 u42_4_u40_8_q31 u42_4_q36_8 u42_4_u40_9_q17 u42_4_u40_9_q24 u42_4_u40_9_q31 u42_4_q36_9 u42_4_u40_10_q17 u42_4_u40_10_q24 u42_4_u40_10_q31) ++ ([])))))) ++ (q50, .inl (cAX X 2, 2, .inr (.inr (.inr (.inr (noQ)))))) :: (zZ (cAX X) q58 2 :: ((sh_X0 (cAX X) q64_4 u68_5_q11 u68_5_q18 u68_5_q25 u68_5_q32 u68_5_q39) ++ ((sh_X4 (cAX X) q75_5 u79_6_q12 u79_6_q20 u79_6_q28) ++ (zI (cAX X) q88 8 :: (zI (cAX X) q96 100 :: ((sh_X2 (cAX X) q118_6 u122_7_q17 u122_7_q24 u122_7_q31) ++ ([])))))))) (by simp only [zQ, List.append_assoc, List.cons_append, List.nil_append, List.append_nil]) ?_
  refine JI.astq hG (qk := 13) rfl (by unfold vp_in; decide) rfl dX6_init_125 ?_
  refine JI.eqw (ws' := (h0, .inr (6, [.ref q5_0, .ref q16_1, .ref q27_2, .ref q38_3, .ref q50, .ref q58, .ref q64_4, .ref q75_5, .ref q88, .ref q96, .long 0])) :: ((sh_X5 (cAX X) q5_0 u9_1_q10_0 u9_1_u14_1_q26 u9_1_u14_1_q34 u9_1_u14_1_q42 u9_1_q21_1 u9_1_u25_2_q17 u9_1_u25_2_q24 u9_1_u25_2_q31 u9_1_q35 u9_1_q44 u9_1_q53) ++ ((sh_X1 (cAX X) q16_1 u20_2_q26 u20_2_q34 u20_2_q42) ++ ((sh_X2 (cAX X) q27_2 u31_3_q17 u31_3_q24 u31_3_q31) ++ ((sh_X3 (cAX X) q38_3 u42_4_q17 u42_4_q36_0 u42_4_u40_1_q17 u42_4_u40_1_q24 u42_4_u40_1_q31 u42_4_q36_1 u42_4_u40_2_q17 u42_4_u40_2_q24 u42_4_u40_2_q31 u42_4_q36_2 u42_4_u40_3_q17 u42_4_u40_3_q24 u42_4_u40_3_q31 u42_4_q36_3 u42_4_u40_4_q17 u42_4_u40_4_q24 u42_4_u40_4_q31 u42_4_q36_4 u42_4_u40_5_q17 u42_4_u40_5_q24 u42_4_u40_5_q31 u42_4_q36_5 u42_4_u40_6_q17 u42_4_u40_6_q24 u42_4_u40_6_q31 u42_4_q36_6 u42_4_u40_7_q17 u42_4_u40_7_q24 u42_4_u40_7_q31 u42_4_q36_7 u42_4_u40_8_q17 u42_4_u40_8_q24 u42_4_u40_8_q31 u42_4_q36_8 u42_4_u40_9_q17 u42_4_u40_9_q24 u42_4_u40_9_q31 u42_4_q36_9 u42_4_u40_10_q17 u42_4_u40_10_q24 u42_4_u40_10_q31) ++ (zQ (cAX X) q50 2 (va_up (noQ) 0 (some q118_6)) :: (zZ (cAX X) q58 2 :: ((sh_X0 (cAX X) q64_4 u68_5_q11 u68_5_q18 u68_5_q25 u68_5_q32 u68_5_q39) ++ ((sh_X4 (cAX X) q75_5 u79_6_q12 u79_6_q20 u79_6_q28) ++ (zI (cAX X) q88 8 :: (zI (cAX X) q96 100 :: ((sh_X2 (cAX X) q118_6 u122_7_q17 u122_7_q24 u122_7_q31) ++ ([]))))))))))))) (by first | rfl | simp only [zQ, List.append_assoc, List.cons_append, List.nil_append, List.append_nil]) ?_
  refine JI.iinc hG 0 1 dX6_init_126 rfl (v := 1) rfl (Nat.le_of_ble_eq_true rfl) (L' := [(1, .int 1), (0, .ref h0)]) rfl ?_
  refine JI.goto hG 108 dX6_init_129 rfl ?_
  refine JI.iload_n hG 0 1 dX6_init_108 rfl rfl ?_
  refine JI.iconst hG (2) dX6_init_109 rfl ?_
  refine JI.icmp_ge hG 132 dX6_init_110 rfl (fun h => absurd h (by decide)) (fun _ => ?_)
  refine JI.aload_n hG 1 0 dX6_init_113 rfl rfl ?_
  refine JI.getR hG ciX6 4 (Nat.le_of_ble_eq_true rfl) fl_X6_37 rfl dX6_init_114 ?_
  refine JI.iload_n hG 0 1 dX6_init_117 rfl rfl ?_
  refine JI.new hG ciX2 cl_X6_23 inst_X2 ini_X2 (fs := [.int 0, .int 0, .null, .null, .null]) (fun j hj => by rcases (show j = 0 ∨ j = 1 ∨ j = 2 ∨ j = 3 ∨ j = 4 by omega) with rfl | rfl | rfl | rfl | rfl <;> rfl) (Nat.le_of_ble_eq_true rfl) (Nat.le_of_ble_eq_true rfl) dX6_init_118 (fun q118_7 => ?_)
  refine JI.dup hG dX6_init_121 ?_
  refine JI.callN hG ic_X2 ok_X2_init (by simp [nestW]) (Nat.le_of_ble_eq_true rfl) ⟨Nat.le_of_ble_eq_true rfl, Nat.le_of_ble_eq_true rfl⟩ ⟨Nat.le_of_ble_eq_true rfl, Nat.le_of_ble_eq_true rfl⟩ dX6_init_122 (fun w122_8 hw => ?_)
  obtain ⟨u122_8_q17, u122_8_q24, u122_8_q31, rfl⟩ := hw
  refine JI.eqw (ws' := (h0, .inr (6, [.ref q5_0, .ref q16_1, .ref q27_2, .ref q38_3, .ref q50, .ref q58, .ref q64_4, .ref q75_5, .ref q88, .ref q96, .long 0])) :: ((sh_X5 (cAX X) q5_0 u9_1_q10_0 u9_1_u14_1_q26 u9_1_u14_1_q34 u9_1_u14_1_q42 u9_1_q21_1 u9_1_u25_2_q17 u9_1_u25_2_q24 u9_1_u25_2_q31 u9_1_q35 u9_1_q44 u9_1_q53) ++ ((sh_X1 (cAX X) q16_1 u20_2_q26 u20_2_q34 u20_2_q42) ++ ((sh_X2 (cAX X) q27_2 u31_3_q17 u31_3_q24 u31_3_q31) ++ ((sh_X3 (cAX X) q38_3 u42_4_q17 u42_4_q36_0 u42_4_u40_1_q17 u42_4_u40_1_q24 u42_4_u40_1_q31 u42_4_q36_1 u42_4_u40_2_q17 u42_4_u40_2_q24 u42_4_u40_2_q31 u42_4_q36_2 u42_4_u40_3_q17 u42_4_u40_3_q24 u42_4_u40_3_q31 u42_4_q36_3 u42_4_u40_4_q17 u42_4_u40_4_q24 u42_4_u40_4_q31 u42_4_q36_4 u42_4_u40_5_q17 u42_4_u40_5_q24 u42_4_u40_5_q31 u42_4_q36_5 u42_4_u40_6_q17 u42_4_u40_6_q24 u42_4_u40_6_q31 u42_4_q36_6 u42_4_u40_7_q17 u42_4_u40_7_q24 u42_4_u40_7_q31 u42_4_q36_7 u42_4_u40_8_q17 u42_4_u40_8_q24 u42_4_u40_8_q31 u42_4_q36_8 u42_4_u40_9_q17 u42_4_u40_9_q24 u42_4_u40_9_q31 u42_4_q36_9 u42_4_u40_10_q17 u42_4_u40_10_q24 u42_4_u40_10_q31) ++ (zQ (cAX X) q50 2 (va_up (noQ) 0 (some q118_6)) :: (zZ (cAX X) q58 2 :: ((sh_X0 (cAX X) q64_4 u68_5_q11 u68_5_q18 u68_5_q25 u68_5_q32 u68_5_q39) ++ ((sh_X4 (cAX X) q75_5 u79_6_q12 u79_6_q20 u79_6_q28) ++ (zI (cAX X) q88 8 :: (zI (cAX X) q96 100 :: ((sh_X2 (cAX X) q118_6 u122_7_q17 u122_7_q24 u122_7_q31) ++ ((sh_X2 (cAX X) q118_7 u122_8_q17 u122_8_q24 u122_8_q31) ++ ([])))))))))))))) (by first | (simp only [zI, zZ, zQ, List.append_assoc, List.cons_append, List.nil_append, List.append_nil]; done) | rfl) ?_
  refine JI.eqw (ws' := ((h0, .inr (6, [.ref q5_0, .ref q16_1, .ref q27_2, .ref q38_3, .ref q50, .ref q58, .ref q64_4, .ref q75_5, .ref q88, .ref q96, .long 0])) :: ((sh_X5 (cAX X) q5_0 u9_1_q10_0 u9_1_u14_1_q26 u9_1_u14_1_q34 u9_1_u14_1_q42 u9_1_q21_1 u9_1_u25_2_q17 u9_1_u25_2_q24 u9_1_u25_2_q31 u9_1_q35 u9_1_q44 u9_1_q53) ++ ((sh_X1 (cAX X) q16_1 u20_2_q26 u20_2_q34 u20_2_q42) ++ ((sh_X2 (cAX X) q27_2 u31_3_q17 u31_3_q24 u31_3_q31) ++ ((sh_X3 (cAX X) q38_3 u42_4_q17 u42_4_q36_0 u42_4_u40_1_q17 u42_4_u40_1_q24 u42_4_u40_1_q31 u42_4_q36_1 u42_4_u40_2_q17 u42_4_u40_2_q24 u42_4_u40_2_q31 u42_4_q36_2 u42_4_u40_3_q17 u42_4_u40_3_q24 u42_4_u40_3_q31 u42_4_q36_3 u42_4_u40_4_q17 u42_4_u40_4_q24 u42_4_u40_4_q31 u42_4_q36_4 u42_4_u40_5_q17 u42_4_u40_5_q24 u42_4_u40_5_q31 u42_4_q36_5 u42_4_u40_6_q17 u42_4_u40_6_q24 u42_4_u40_6_q31 u42_4_q36_6 u42_4_u40_7_q17 u42_4_u40_7_q24 u42_4_u40_7_q31 u42_4_q36_7 u42_4_u40_8_q17 u42_4_u40_8_q24 u42_4_u40_8_q31 u42_4_q36_8 u42_4_u40_9_q17 u42_4_u40_9_q24 u42_4_u40_9_q31 u42_4_q36_9 u42_4_u40_10_q17 u42_4_u40_10_q24 u42_4_u40_10_q31) ++ ([])))))) ++ (q50, .inl (cAX X 2, 2, .inr (.inr (.inr (.inr (va_up (noQ) 0 (some q118_6))))))) :: (zZ (cAX X) q58 2 :: ((sh_X0 (cAX X) q64_4 u68_5_q11 u68_5_q18 u68_5_q25 u68_5_q32 u68_5_q39) ++ ((sh_X4 (cAX X) q75_5 u79_6_q12 u79_6_q20 u79_6_q28) ++ (zI (cAX X) q88 8 :: (zI (cAX X) q96 100 :: ((sh_X2 (cAX X) q118_6 u122_7_q17 u122_7_q24 u122_7_q31) ++ ((sh_X2 (cAX X) q118_7 u122_8_q17 u122_8_q24 u122_8_q31) ++ ([]))))))))) (by simp only [zQ, List.append_assoc, List.cons_append, List.nil_append, List.append_nil]) ?_
  refine JI.astq hG (qk := 17) rfl (by unfold vp_in; decide) rfl dX6_init_125 ?_
  refine JI.eqw (ws' := (h0, .inr (6, [.ref q5_0, .ref q16_1, .ref q27_2, .ref q38_3, .ref q50, .ref q58, .ref q64_4, .ref q75_5, .ref q88, .ref q96, .long 0])) :: ((sh_X5 (cAX X) q5_0 u9_1_q10_0 u9_1_u14_1_q26 u9_1_u14_1_q34 u9_1_u14_1_q42 u9_1_q21_1 u9_1_u25_2_q17 u9_1_u25_2_q24 u9_1_u25_2_q31 u9_1_q35 u9_1_q44 u9_1_q53) ++ ((sh_X1 (cAX X) q16_1 u20_2_q26 u20_2_q34 u20_2_q42) ++ ((sh_X2 (cAX X) q27_2 u31_3_q17 u31_3_q24 u31_3_q31) ++ ((sh_X3 (cAX X) q38_3 u42_4_q17 u42_4_q36_0 u42_4_u40_1_q17 u42_4_u40_1_q24 u42_4_u40_1_q31 u42_4_q36_1 u42_4_u40_2_q17 u42_4_u40_2_q24 u42_4_u40_2_q31 u42_4_q36_2 u42_4_u40_3_q17 u42_4_u40_3_q24 u42_4_u40_3_q31 u42_4_q36_3 u42_4_u40_4_q17 u42_4_u40_4_q24 u42_4_u40_4_q31 u42_4_q36_4 u42_4_u40_5_q17 u42_4_u40_5_q24 u42_4_u40_5_q31 u42_4_q36_5 u42_4_u40_6_q17 u42_4_u40_6_q24 u42_4_u40_6_q31 u42_4_q36_6 u42_4_u40_7_q17 u42_4_u40_7_q24 u42_4_u40_7_q31 u42_4_q36_7 u42_4_u40_8_q17 u42_4_u40_8_q24 u42_4_u40_8_q31 u42_4_q36_8 u42_4_u40_9_q17 u42_4_u40_9_q24 u42_4_u40_9_q31 u42_4_q36_9 u42_4_u40_10_q17 u42_4_u40_10_q24 u42_4_u40_10_q31) ++ (zQ (cAX X) q50 2 (va_up (va_up (noQ) 0 (some q118_6)) 1 (some q118_7)) :: (zZ (cAX X) q58 2 :: ((sh_X0 (cAX X) q64_4 u68_5_q11 u68_5_q18 u68_5_q25 u68_5_q32 u68_5_q39) ++ ((sh_X4 (cAX X) q75_5 u79_6_q12 u79_6_q20 u79_6_q28) ++ (zI (cAX X) q88 8 :: (zI (cAX X) q96 100 :: ((sh_X2 (cAX X) q118_6 u122_7_q17 u122_7_q24 u122_7_q31) ++ ((sh_X2 (cAX X) q118_7 u122_8_q17 u122_8_q24 u122_8_q31) ++ ([])))))))))))))) (by first | rfl | simp only [zQ, List.append_assoc, List.cons_append, List.nil_append, List.append_nil]) ?_
  refine JI.iinc hG 0 1 dX6_init_126 rfl (v := 2) rfl (Nat.le_of_ble_eq_true rfl) (L' := [(1, .int 2), (0, .ref h0)]) rfl ?_
  refine JI.goto hG 108 dX6_init_129 rfl ?_
  refine JI.iload_n hG 0 1 dX6_init_108 rfl rfl ?_
  refine JI.iconst hG (2) dX6_init_109 rfl ?_
  refine JI.icmp_ge hG 132 dX6_init_110 rfl (fun _ => ?_) (fun h => absurd (by decide) h)
  refine JI.vret hG hQ dX6_init_132 ?_
  refine ⟨fun i => ([h0, q5_0, u9_1_q10_0, u9_1_u14_1_q26, u9_1_u14_1_q34, u9_1_u14_1_q42, u9_1_q21_1, u9_1_u25_2_q17, u9_1_u25_2_q24, u9_1_u25_2_q31, u9_1_q35, u9_1_q44, u9_1_q53, q16_1, u20_2_q26, u20_2_q34, u20_2_q42, q27_2, u31_3_q17, u31_3_q24, u31_3_q31, q38_3, u42_4_q17, u42_4_q36_0, u42_4_u40_1_q17, u42_4_u40_1_q24, u42_4_u40_1_q31, u42_4_q36_1, u42_4_u40_2_q17, u42_4_u40_2_q24, u42_4_u40_2_q31, u42_4_q36_2, u42_4_u40_3_q17, u42_4_u40_3_q24, u42_4_u40_3_q31, u42_4_q36_3, u42_4_u40_4_q17, u42_4_u40_4_q24, u42_4_u40_4_q31, u42_4_q36_4, u42_4_u40_5_q17, u42_4_u40_5_q24, u42_4_u40_5_q31, u42_4_q36_5, u42_4_u40_6_q17, u42_4_u40_6_q24, u42_4_u40_6_q31, u42_4_q36_6, u42_4_u40_7_q17, u42_4_u40_7_q24, u42_4_u40_7_q31, u42_4_q36_7, u42_4_u40_8_q17, u42_4_u40_8_q24, u42_4_u40_8_q31, u42_4_q36_8, u42_4_u40_9_q17, u42_4_u40_9_q24, u42_4_u40_9_q31, u42_4_q36_9, u42_4_u40_10_q17, u42_4_u40_10_q24, u42_4_u40_10_q31, q50, q58, q64_4, u68_5_q11, u68_5_q18, u68_5_q25, u68_5_q32, u68_5_q39, q75_5, u79_6_q12, u79_6_q20, u79_6_q28, q88, q96, q118_6, u122_7_q17, u122_7_q24, u122_7_q31, q118_7, u122_8_q17, u122_8_q24, u122_8_q31] : List Nat).getD i 0, rfl, ?_⟩
  rw [wOf_G]
  simp only [sh_X0, sh_X1, sh_X2, sh_X3, sh_X4, sh_X5, List.cons_append, List.nil_append, List.append_nil]
  refine cons2 rfl ?_
  refine cons2 rfl ?_
  refine cons2 rfl ?_
  refine cons2 rfl ?_
  refine cons2 rfl ?_
  refine cons2 rfl ?_
  refine cons2 rfl ?_
  refine cons2 rfl ?_
  refine cons2 rfl ?_
  refine cons2 rfl ?_
  refine cons2 rfl ?_
  refine cons2 rfl ?_
  refine cons2 rfl ?_
  refine cons2 rfl ?_
  refine cons2 rfl ?_
  refine cons2 rfl ?_
  refine cons2 rfl ?_
  refine cons2 rfl ?_
  refine cons2 rfl ?_
  refine cons2 rfl ?_
  refine cons2 rfl ?_
  refine cons2 rfl ?_
  refine cons2 (congrArg (Prod.mk _) (cE_q _ _ _ 22 10 [23, 27, 31, 35, 39, 43, 47, 51, 55, 59] _ (lk_map2 _ _ _ (fq10 _ _ _ _ _ _ _ _ _ _) ?_))) ?_
  · rfl
  refine cons2 rfl ?_
  refine cons2 rfl ?_
  refine cons2 rfl ?_
  refine cons2 rfl ?_
  refine cons2 rfl ?_
  refine cons2 rfl ?_
  refine cons2 rfl ?_
  refine cons2 rfl ?_
  refine cons2 rfl ?_
  refine cons2 rfl ?_
  refine cons2 rfl ?_
  refine cons2 rfl ?_
  refine cons2 rfl ?_
  refine cons2 rfl ?_
  refine cons2 rfl ?_
  refine cons2 rfl ?_
  refine cons2 rfl ?_
  refine cons2 rfl ?_
  refine cons2 rfl ?_
  refine cons2 rfl ?_
  refine cons2 rfl ?_
  refine cons2 rfl ?_
  refine cons2 rfl ?_
  refine cons2 rfl ?_
  refine cons2 rfl ?_
  refine cons2 rfl ?_
  refine cons2 rfl ?_
  refine cons2 rfl ?_
  refine cons2 rfl ?_
  refine cons2 rfl ?_
  refine cons2 rfl ?_
  refine cons2 rfl ?_
  refine cons2 rfl ?_
  refine cons2 rfl ?_
  refine cons2 rfl ?_
  refine cons2 rfl ?_
  refine cons2 rfl ?_
  refine cons2 rfl ?_
  refine cons2 rfl ?_
  refine cons2 rfl ?_
  refine cons2 (congrArg (Prod.mk _) (cE_q _ _ _ 63 2 [77, 81] _ (lk_map2 _ _ _ (fq2 _ _) ?_))) ?_
  · rfl
  refine cons2 rfl ?_
  refine cons2 rfl ?_
  refine cons2 rfl ?_
  refine cons2 rfl ?_
  refine cons2 rfl ?_
  refine cons2 rfl ?_
  refine cons2 rfl ?_
  refine cons2 rfl ?_
  refine cons2 rfl ?_
  refine cons2 rfl ?_
  refine cons2 rfl ?_
  refine cons2 rfl ?_
  refine cons2 rfl ?_
  refine cons2 rfl ?_
  refine cons2 rfl ?_
  refine cons2 rfl ?_
  refine cons2 rfl ?_
  refine cons2 rfl ?_
  refine cons2 rfl ?_
  refine cons2 rfl ?_
  refine cons2 rfl ?_
  rfl

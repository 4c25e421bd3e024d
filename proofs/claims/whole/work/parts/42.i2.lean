def zI (cA : Nat → ClassId) (q n : Nat) : Nat × va_E := (q, .inl (cA 0, n, .inl (fun _ => 0)))
def zZ (cA : Nat → ClassId) (q n : Nat) : Nat × va_E := (q, .inl (cA 1, n, .inl (fun _ => 0)))
def zQ (cA : Nat → ClassId) (q n : Nat) (f : Nat → Option Nat) : Nat × va_E := (q, .inl (cA 2, n, .inr (.inr (.inr (.inr f)))))
def noQ : Nat → Option Nat := fun _ => none
theorem newq_none (cA : Nat → ClassId) (q n : Nat) : ((q, .inl (cA 2, n, .inr (.inr (.inr (.inr (fun _ => none)))))) : Nat × va_E) = zQ cA q n noQ := rfl

def sh_X2 (cA : Nat → ClassId) (h0 q17 q24 q31 : Nat) : va_W := (h0, .inr (2, [.int 0, .int 0, .ref q17, .ref q24, .ref q31])) :: (zI cA q17 16 :: (zI cA q24 4 :: (zI cA q31 4 :: ([]))))
abbrev mi_X2 : MdI := (yX2_init, cX2_init, 1, 1, 3, 24, 30)
theorem ok_X2_init : OkI mi_X2 := ⟨cd_X2_init, ini_X2, im_X2_init, rfl, by decide +kernel, by decide +kernel, by decide +kernel⟩
set_option maxRecDepth 100000 in
set_option maxHeartbeats 4000000 in
theorem ic_X2 : InitC mi_X2 2 [.int 0, .int 0, .null, .null, .null] (fun cA h0 w => ∃ q17 q24 q31 : Nat, w = sh_X2 cA h0 q17 q24 q31) := by
  refine InitC.of (by decide) rfl (Nat.le_of_ble_eq_true rfl) (fun X h0 hG hin hQ => ?_)
  have hG : GI X RX2 cX2_init 1 1 3 24 30 := hG
  show JI X 1 0 [(0, .ref h0)] [] [(h0, .inr (2, [.int 0, .int 0, .null, .null, .null]))] 0 0
  refine JI.aload_n hG 0 0 dX2_init_0 rfl rfl ?_
  refine JI.objInit hG ml_X2_3 (Nat.le_of_ble_eq_true rfl) (Nat.le_of_ble_eq_true rfl) (Nat.le_of_ble_eq_true rfl) dX2_init_1 ?_
  refine JI.aload_n hG 0 0 dX2_init_4 rfl rfl ?_
  refine JI.iconst hG (0) dX2_init_5 rfl ?_
  refine JI.put hG ciX2 0 (Nat.le_of_ble_eq_true rfl) fl_X2_9 rfl rfl rfl (Nat.le_of_ble_eq_true rfl) (fs2 := [.int 0, .int 0, .null, .null, .null]) rfl dX2_init_6 ?_
  refine JI.aload_n hG 0 0 dX2_init_9 rfl rfl ?_
  refine JI.iconst hG (0) dX2_init_10 rfl ?_
  refine JI.put hG ciX2 1 (Nat.le_of_ble_eq_true rfl) fl_X2_15 rfl rfl rfl (Nat.le_of_ble_eq_true rfl) (fs2 := [.int 0, .int 0, .null, .null, .null]) rfl dX2_init_11 ?_
  refine JI.aload_n hG 0 0 dX2_init_14 rfl rfl ?_
  refine JI.bipush hG (16) dX2_init_15 rfl ?_
  refine JI.newI hG (by decide) (N := 16) rfl (by decide) (Nat.le_of_ble_eq_true rfl) (Nat.le_of_ble_eq_true rfl) dX2_init_17 (fun q17 => ?_)
  refine JI.eqw (ws' := (h0, .inr (2, [.int 0, .int 0, .null, .null, .null])) :: (zI (cAX X) q17 16 :: ([]))) (by first | (simp only [zI, zZ, zQ, List.append_assoc, List.cons_append, List.nil_append, List.append_nil]; done) | rfl) ?_
  refine JI.putF hG hin ciX2 2 (Nat.le_of_ble_eq_true rfl) fl_X2_18 rfl rfl rfl rfl (Nat.le_of_ble_eq_true rfl) (fs2 := [.int 0, .int 0, .ref q17, .null, .null]) rfl dX2_init_19 ?_
  refine JI.aload_n hG 0 0 dX2_init_22 rfl rfl ?_
  refine JI.iconst hG (4) dX2_init_23 rfl ?_
  refine JI.newI hG (by decide) (N := 4) rfl (by decide) (Nat.le_of_ble_eq_true rfl) (Nat.le_of_ble_eq_true rfl) dX2_init_24 (fun q24 => ?_)
  refine JI.eqw (ws' := (h0, .inr (2, [.int 0, .int 0, .ref q17, .null, .null])) :: (zI (cAX X) q17 16 :: (zI (cAX X) q24 4 :: ([])))) (by first | (simp only [zI, zZ, zQ, List.append_assoc, List.cons_append, List.nil_append, List.append_nil]; done) | rfl) ?_
  refine JI.putF hG hin ciX2 3 (Nat.le_of_ble_eq_true rfl) fl_X2_22 rfl rfl rfl rfl (Nat.le_of_ble_eq_true rfl) (fs2 := [.int 0, .int 0, .ref q17, .ref q24, .null]) rfl dX2_init_26 ?_
  refine JI.aload_n hG 0 0 dX2_init_29 rfl rfl ?_
  refine JI.iconst hG (4) dX2_init_30 rfl ?_
  refine JI.newI hG (by decide) (N := 4) rfl (by decide) (Nat.le_of_ble_eq_true rfl) (Nat.le_of_ble_eq_true rfl) dX2_init_31 (fun q31 => ?_)
  refine JI.eqw (ws' := (h0, .inr (2, [.int 0, .int 0, .ref q17, .ref q24, .null])) :: (zI (cAX X) q17 16 :: (zI (cAX X) q24 4 :: (zI (cAX X) q31 4 :: ([]))))) (by first | (simp only [zI, zZ, zQ, List.append_assoc, List.cons_append, List.nil_append, List.append_nil]; done) | rfl) ?_
  refine JI.putF hG hin ciX2 4 (Nat.le_of_ble_eq_true rfl) fl_X2_25 rfl rfl rfl rfl (Nat.le_of_ble_eq_true rfl) (fs2 := [.int 0, .int 0, .ref q17, .ref q24, .ref q31]) rfl dX2_init_33 ?_
  refine JI.vret hG hQ dX2_init_36 ?_
  exact ⟨q17, q24, q31, rfl⟩
def sh_X1 (cA : Nat → ClassId) (h0 q26 q34 q42 : Nat) : va_W := (h0, .inr (1, [.int 0, .int 0, .int 0, .int 2, .ref q26, .ref q34, .ref q42])) :: (zI cA q26 4 :: (zI cA q34 16 :: (zI cA q42 8 :: ([]))))
abbrev mi_X1 : MdI := (yX1_init, cX1_init, 1, 1, 3, 28, 30)
theorem ok_X1_init : OkI mi_X1 := ⟨cd_X1_init, ini_X1, im_X1_init, rfl, by decide +kernel, by decide +kernel, by decide +kernel⟩
set_option maxRecDepth 100000 in
set_option maxHeartbeats 4000000 in
theorem ic_X1 : InitC mi_X1 1 [.int 0, .int 0, .int 0, .int 0, .null, .null, .null] (fun cA h0 w => ∃ q26 q34 q42 : Nat, w = sh_X1 cA h0 q26 q34 q42) := by
  refine InitC.of (by decide) rfl (Nat.le_of_ble_eq_true rfl) (fun X h0 hG hin hQ => ?_)
  have hG : GI X RX1 cX1_init 1 1 3 28 30 := hG
  show JI X 1 0 [(0, .ref h0)] [] [(h0, .inr (1, [.int 0, .int 0, .int 0, .int 0, .null, .null, .null]))] 0 0
  refine JI.aload_n hG 0 0 dX1_init_0 rfl rfl ?_
  refine JI.objInit hG ml_X1_3 (Nat.le_of_ble_eq_true rfl) (Nat.le_of_ble_eq_true rfl) (Nat.le_of_ble_eq_true rfl) dX1_init_1 ?_
  refine JI.aload_n hG 0 0 dX1_init_4 rfl rfl ?_
  refine JI.iconst hG (0) dX1_init_5 rfl ?_
  refine JI.put hG ciX1 0 (Nat.le_of_ble_eq_true rfl) fl_X1_9 rfl rfl rfl (Nat.le_of_ble_eq_true rfl) (fs2 := [.int 0, .int 0, .int 0, .int 0, .null, .null, .null]) rfl dX1_init_6 ?_
  refine JI.aload_n hG 0 0 dX1_init_9 rfl rfl ?_
  refine JI.iconst hG (0) dX1_init_10 rfl ?_
  refine JI.put hG ciX1 1 (Nat.le_of_ble_eq_true rfl) fl_X1_15 rfl rfl rfl (Nat.le_of_ble_eq_true rfl) (fs2 := [.int 0, .int 0, .int 0, .int 0, .null, .null, .null]) rfl dX1_init_11 ?_
  refine JI.aload_n hG 0 0 dX1_init_14 rfl rfl ?_
  refine JI.iconst hG (0) dX1_init_15 rfl ?_
  refine JI.put hG ciX1 2 (Nat.le_of_ble_eq_true rfl) fl_X1_18 rfl rfl rfl (Nat.le_of_ble_eq_true rfl) (fs2 := [.int 0, .int 0, .int 0, .int 0, .null, .null, .null]) rfl dX1_init_16 ?_
  refine JI.aload_n hG 0 0 dX1_init_19 rfl rfl ?_
  refine JI.iconst hG (2) dX1_init_20 rfl ?_
  refine JI.put hG ciX1 3 (Nat.le_of_ble_eq_true rfl) fl_X1_21 rfl rfl rfl (Nat.le_of_ble_eq_true rfl) (fs2 := [.int 0, .int 0, .int 0, .int 2, .null, .null, .null]) rfl dX1_init_21 ?_
  refine JI.aload_n hG 0 0 dX1_init_24 rfl rfl ?_
  refine JI.iconst hG (4) dX1_init_25 rfl ?_
  refine JI.newI hG (by decide) (N := 4) rfl (by decide) (Nat.le_of_ble_eq_true rfl) (Nat.le_of_ble_eq_true rfl) dX1_init_26 (fun q26 => ?_)
  refine JI.eqw (ws' := (h0, .inr (1, [.int 0, .int 0, .int 0, .int 2, .null, .null, .null])) :: (zI (cAX X) q26 4 :: ([]))) (by first | (simp only [zI, zZ, zQ, List.append_assoc, List.cons_append, List.nil_append, List.append_nil]; done) | rfl) ?_
  refine JI.putF hG hin ciX1 4 (Nat.le_of_ble_eq_true rfl) fl_X1_24 rfl rfl rfl rfl (Nat.le_of_ble_eq_true rfl) (fs2 := [.int 0, .int 0, .int 0, .int 2, .ref q26, .null, .null]) rfl dX1_init_28 ?_
  refine JI.aload_n hG 0 0 dX1_init_31 rfl rfl ?_
  refine JI.bipush hG (16) dX1_init_32 rfl ?_
  refine JI.newI hG (by decide) (N := 16) rfl (by decide) (Nat.le_of_ble_eq_true rfl) (Nat.le_of_ble_eq_true rfl) dX1_init_34 (fun q34 => ?_)
  refine JI.eqw (ws' := (h0, .inr (1, [.int 0, .int 0, .int 0, .int 2, .ref q26, .null, .null])) :: (zI (cAX X) q26 4 :: (zI (cAX X) q34 16 :: ([])))) (by first | (simp only [zI, zZ, zQ, List.append_assoc, List.cons_append, List.nil_append, List.append_nil]; done) | rfl) ?_
  refine JI.putF hG hin ciX1 5 (Nat.le_of_ble_eq_true rfl) fl_X1_28 rfl rfl rfl rfl (Nat.le_of_ble_eq_true rfl) (fs2 := [.int 0, .int 0, .int 0, .int 2, .ref q26, .ref q34, .null]) rfl dX1_init_36 ?_
  refine JI.aload_n hG 0 0 dX1_init_39 rfl rfl ?_
  refine JI.bipush hG (8) dX1_init_40 rfl ?_
  refine JI.newI hG (by decide) (N := 8) rfl (by decide) (Nat.le_of_ble_eq_true rfl) (Nat.le_of_ble_eq_true rfl) dX1_init_42 (fun q42 => ?_)
  refine JI.eqw (ws' := (h0, .inr (1, [.int 0, .int 0, .int 0, .int 2, .ref q26, .ref q34, .null])) :: (zI (cAX X) q26 4 :: (zI (cAX X) q34 16 :: (zI (cAX X) q42 8 :: ([]))))) (by first | (simp only [zI, zZ, zQ, List.append_assoc, List.cons_append, List.nil_append, List.append_nil]; done) | rfl) ?_
  refine JI.putF hG hin ciX1 6 (Nat.le_of_ble_eq_true rfl) fl_X1_31 rfl rfl rfl rfl (Nat.le_of_ble_eq_true rfl) (fs2 := [.int 0, .int 0, .int 0, .int 2, .ref q26, .ref q34, .ref q42]) rfl dX1_init_44 ?_
  refine JI.vret hG hQ dX1_init_47 ?_
  exact ⟨q26, q34, q42, rfl⟩
def sh_X0 (cA : Nat → ClassId) (h0 q11 q18 q25 q32 q39 : Nat) : va_W := (h0, .inr (0, [.int 0, .ref q11, .ref q18, .ref q25, .ref q32, .ref q39])) :: (zI cA q11 5 :: (zI cA q18 5 :: (zI cA q25 5 :: (zI cA q32 5 :: (zI cA q39 4 :: ([]))))))
abbrev mi_X0 : MdI := (yX0_init, cX0_init, 1, 1, 5, 24, 30)
theorem ok_X0_init : OkI mi_X0 := ⟨cd_X0_init, ini_X0, im_X0_init, rfl, by decide +kernel, by decide +kernel, by decide +kernel⟩
set_option maxRecDepth 100000 in
set_option maxHeartbeats 4000000 in
theorem ic_X0 : InitC mi_X0 0 [.int 0, .null, .null, .null, .null, .null] (fun cA h0 w => ∃ q11 q18 q25 q32 q39 : Nat, w = sh_X0 cA h0 q11 q18 q25 q32 q39) := by
  refine InitC.of (by decide) rfl (Nat.le_of_ble_eq_true rfl) (fun X h0 hG hin hQ => ?_)
  have hG : GI X RX0 cX0_init 1 1 5 24 30 := hG
  show JI X 1 0 [(0, .ref h0)] [] [(h0, .inr (0, [.int 0, .null, .null, .null, .null, .null]))] 0 0
  refine JI.aload_n hG 0 0 dX0_init_0 rfl rfl ?_
  refine JI.objInit hG ml_X0_3 (Nat.le_of_ble_eq_true rfl) (Nat.le_of_ble_eq_true rfl) (Nat.le_of_ble_eq_true rfl) dX0_init_1 ?_
  refine JI.aload_n hG 0 0 dX0_init_4 rfl rfl ?_
  refine JI.iconst hG (0) dX0_init_5 rfl ?_
  refine JI.put hG ciX0 0 (Nat.le_of_ble_eq_true rfl) fl_X0_9 rfl rfl rfl (Nat.le_of_ble_eq_true rfl) (fs2 := [.int 0, .null, .null, .null, .null, .null]) rfl dX0_init_6 ?_
  refine JI.aload_n hG 0 0 dX0_init_9 rfl rfl ?_
  refine JI.iconst hG (5) dX0_init_10 rfl ?_
  refine JI.newI hG (by decide) (N := 5) rfl (by decide) (Nat.le_of_ble_eq_true rfl) (Nat.le_of_ble_eq_true rfl) dX0_init_11 (fun q11 => ?_)
  refine JI.eqw (ws' := (h0, .inr (0, [.int 0, .null, .null, .null, .null, .null])) :: (zI (cAX X) q11 5 :: ([]))) (by first | (simp only [zI, zZ, zQ, List.append_assoc, List.cons_append, List.nil_append, List.append_nil]; done) | rfl) ?_
  refine JI.putF hG hin ciX0 1 (Nat.le_of_ble_eq_true rfl) fl_X0_15 rfl rfl rfl rfl (Nat.le_of_ble_eq_true rfl) (fs2 := [.int 0, .ref q11, .null, .null, .null, .null]) rfl dX0_init_13 ?_
  refine JI.aload_n hG 0 0 dX0_init_16 rfl rfl ?_
  refine JI.iconst hG (5) dX0_init_17 rfl ?_
  refine JI.newI hG (by decide) (N := 5) rfl (by decide) (Nat.le_of_ble_eq_true rfl) (Nat.le_of_ble_eq_true rfl) dX0_init_18 (fun q18 => ?_)
  refine JI.eqw (ws' := (h0, .inr (0, [.int 0, .ref q11, .null, .null, .null, .null])) :: (zI (cAX X) q11 5 :: (zI (cAX X) q18 5 :: ([])))) (by first | (simp only [zI, zZ, zQ, List.append_assoc, List.cons_append, List.nil_append, List.append_nil]; done) | rfl) ?_
  refine JI.putF hG hin ciX0 2 (Nat.le_of_ble_eq_true rfl) fl_X0_19 rfl rfl rfl rfl (Nat.le_of_ble_eq_true rfl) (fs2 := [.int 0, .ref q11, .ref q18, .null, .null, .null]) rfl dX0_init_20 ?_
  refine JI.aload_n hG 0 0 dX0_init_23 rfl rfl ?_
  refine JI.iconst hG (5) dX0_init_24 rfl ?_
  refine JI.newI hG (by decide) (N := 5) rfl (by decide) (Nat.le_of_ble_eq_true rfl) (Nat.le_of_ble_eq_true rfl) dX0_init_25 (fun q25 => ?_)
  refine JI.eqw (ws' := (h0, .inr (0, [.int 0, .ref q11, .ref q18, .null, .null, .null])) :: (zI (cAX X) q11 5 :: (zI (cAX X) q18 5 :: (zI (cAX X) q25 5 :: ([]))))) (by first | (simp only [zI, zZ, zQ, List.append_assoc, List.cons_append, List.nil_append, List.append_nil]; done) | rfl) ?_
  refine JI.putF hG hin ciX0 3 (Nat.le_of_ble_eq_true rfl) fl_X0_22 rfl rfl rfl rfl (Nat.le_of_ble_eq_true rfl) (fs2 := [.int 0, .ref q11, .ref q18, .ref q25, .null, .null]) rfl dX0_init_27 ?_
  refine JI.aload_n hG 0 0 dX0_init_30 rfl rfl ?_
  refine JI.iconst hG (5) dX0_init_31 rfl ?_
  refine JI.newI hG (by decide) (N := 5) rfl (by decide) (Nat.le_of_ble_eq_true rfl) (Nat.le_of_ble_eq_true rfl) dX0_init_32 (fun q32 => ?_)
  refine JI.eqw (ws' := (h0, .inr (0, [.int 0, .ref q11, .ref q18, .ref q25, .null, .null])) :: (zI (cAX X) q11 5 :: (zI (cAX X) q18 5 :: (zI (cAX X) q25 5 :: (zI (cAX X) q32 5 :: ([])))))) (by first | (simp only [zI, zZ, zQ, List.append_assoc, List.cons_append, List.nil_append, List.append_nil]; done) | rfl) ?_
  refine JI.putF hG hin ciX0 4 (Nat.le_of_ble_eq_true rfl) fl_X0_25 rfl rfl rfl rfl (Nat.le_of_ble_eq_true rfl) (fs2 := [.int 0, .ref q11, .ref q18, .ref q25, .ref q32, .null]) rfl dX0_init_34 ?_
  refine JI.aload_n hG 0 0 dX0_init_37 rfl rfl ?_
  refine JI.iconst hG (4) dX0_init_38 rfl ?_
  refine JI.newI hG (by decide) (N := 4) rfl (by decide) (Nat.le_of_ble_eq_true rfl) (Nat.le_of_ble_eq_true rfl) dX0_init_39 (fun q39 => ?_)
  refine JI.eqw (ws' := (h0, .inr (0, [.int 0, .ref q11, .ref q18, .ref q25, .ref q32, .null])) :: (zI (cAX X) q11 5 :: (zI (cAX X) q18 5 :: (zI (cAX X) q25 5 :: (zI (cAX X) q32 5 :: (zI (cAX X) q39 4 :: ([]))))))) (by first | (simp only [zI, zZ, zQ, List.append_assoc, List.cons_append, List.nil_append, List.append_nil]; done) | rfl) ?_
  refine JI.putF hG hin ciX0 5 (Nat.le_of_ble_eq_true rfl) fl_X0_28 rfl rfl rfl rfl (Nat.le_of_ble_eq_true rfl) (fs2 := [.int 0, .ref q11, .ref q18, .ref q25, .ref q32, .ref q39]) rfl dX0_init_41 ?_
  refine JI.vret hG hQ dX0_init_44 ?_
  exact ⟨q11, q18, q25, q32, q39, rfl⟩
def sh_X4 (cA : Nat → ClassId) (h0 q12 q20 q28 : Nat) : va_W := (h0, .inr (4, [.int 0, .ref q12, .ref q20, .ref q28])) :: (zI cA q12 6 :: (zI cA q20 6 :: (zI cA q28 6 :: ([]))))
abbrev mi_X4 : MdI := (yX4_init, cX4_init, 1, 1, 3, 18, 30)
theorem ok_X4_init : OkI mi_X4 := ⟨cd_X4_init, ini_X4, im_X4_init, rfl, by decide +kernel, by decide +kernel, by decide +kernel⟩
set_option maxRecDepth 100000 in
set_option maxHeartbeats 4000000 in
theorem ic_X4 : InitC mi_X4 4 [.int 0, .null, .null, .null] (fun cA h0 w => ∃ q12 q20 q28 : Nat, w = sh_X4 cA h0 q12 q20 q28) := by
  refine InitC.of (by decide) rfl (Nat.le_of_ble_eq_true rfl) (fun X h0 hG hin hQ => ?_)
  have hG : GI X RX4 cX4_init 1 1 3 18 30 := hG
  show JI X 1 0 [(0, .ref h0)] [] [(h0, .inr (4, [.int 0, .null, .null, .null]))] 0 0
  refine JI.aload_n hG 0 0 dX4_init_0 rfl rfl ?_
  refine JI.objInit hG ml_X4_3 (Nat.le_of_ble_eq_true rfl) (Nat.le_of_ble_eq_true rfl) (Nat.le_of_ble_eq_true rfl) dX4_init_1 ?_
  refine JI.aload_n hG 0 0 dX4_init_4 rfl rfl ?_
  refine JI.iconst hG (0) dX4_init_5 rfl ?_
  refine JI.put hG ciX4 0 (Nat.le_of_ble_eq_true rfl) fl_X4_9 rfl rfl rfl (Nat.le_of_ble_eq_true rfl) (fs2 := [.int 0, .null, .null, .null]) rfl dX4_init_6 ?_
  refine JI.aload_n hG 0 0 dX4_init_9 rfl rfl ?_
  refine JI.bipush hG (6) dX4_init_10 rfl ?_
  refine JI.newI hG (by decide) (N := 6) rfl (by decide) (Nat.le_of_ble_eq_true rfl) (Nat.le_of_ble_eq_true rfl) dX4_init_12 (fun q12 => ?_)
  refine JI.eqw (ws' := (h0, .inr (4, [.int 0, .null, .null, .null])) :: (zI (cAX X) q12 6 :: ([]))) (by first | (simp only [zI, zZ, zQ, List.append_assoc, List.cons_append, List.nil_append, List.append_nil]; done) | rfl) ?_
  refine JI.putF hG hin ciX4 1 (Nat.le_of_ble_eq_true rfl) fl_X4_15 rfl rfl rfl rfl (Nat.le_of_ble_eq_true rfl) (fs2 := [.int 0, .ref q12, .null, .null]) rfl dX4_init_14 ?_
  refine JI.aload_n hG 0 0 dX4_init_17 rfl rfl ?_
  refine JI.bipush hG (6) dX4_init_18 rfl ?_
  refine JI.newI hG (by decide) (N := 6) rfl (by decide) (Nat.le_of_ble_eq_true rfl) (Nat.le_of_ble_eq_true rfl) dX4_init_20 (fun q20 => ?_)
  refine JI.eqw (ws' := (h0, .inr (4, [.int 0, .ref q12, .null, .null])) :: (zI (cAX X) q12 6 :: (zI (cAX X) q20 6 :: ([])))) (by first | (simp only [zI, zZ, zQ, List.append_assoc, List.cons_append, List.nil_append, List.append_nil]; done) | rfl) ?_
  refine JI.putF hG hin ciX4 2 (Nat.le_of_ble_eq_true rfl) fl_X4_19 rfl rfl rfl rfl (Nat.le_of_ble_eq_true rfl) (fs2 := [.int 0, .ref q12, .ref q20, .null]) rfl dX4_init_22 ?_
  refine JI.aload_n hG 0 0 dX4_init_25 rfl rfl ?_
  refine JI.bipush hG (6) dX4_init_26 rfl ?_
  refine JI.newI hG (by decide) (N := 6) rfl (by decide) (Nat.le_of_ble_eq_true rfl) (Nat.le_of_ble_eq_true rfl) dX4_init_28 (fun q28 => ?_)
  refine JI.eqw (ws' := (h0, .inr (4, [.int 0, .ref q12, .ref q20, .null])) :: (zI (cAX X) q12 6 :: (zI (cAX X) q20 6 :: (zI (cAX X) q28 6 :: ([]))))) (by first | (simp only [zI, zZ, zQ, List.append_assoc, List.cons_append, List.nil_append, List.append_nil]; done) | rfl) ?_
  refine JI.putF hG hin ciX4 3 (Nat.le_of_ble_eq_true rfl) fl_X4_22 rfl rfl rfl rfl (Nat.le_of_ble_eq_true rfl) (fs2 := [.int 0, .ref q12, .ref q20, .ref q28]) rfl dX4_init_30 ?_
  refine JI.vret hG hQ dX4_init_33 ?_
  exact ⟨q12, q20, q28, rfl⟩
def sh_X3 (cA : Nat → ClassId) (h0 q17 q36_0 u40_1_q17 u40_1_q24 u40_1_q31 q36_1 u40_2_q17 u40_2_q24 u40_2_q31 q36_2 u40_3_q17 u40_3_q24 u40_3_q31 q36_3 u40_4_q17 u40_4_q24 u40_4_q31 q36_4 u40_5_q17 u40_5_q24 u40_5_q31 q36_5 u40_6_q17 u40_6_q24 u40_6_q31 q36_6 u40_7_q17 u40_7_q24 u40_7_q31 q36_7 u40_8_q17 u40_8_q24 u40_8_q31 q36_8 u40_9_q17 u40_9_q24 u40_9_q31 q36_9 u40_10_q17 u40_10_q24 u40_10_q31 : Nat) : va_W := (h0, .inr (3, [.int 0, .int 0, .ref q17])) :: (zQ cA q17 10 (va_up (va_up (va_up (va_up (va_up (va_up (va_up (va_up (va_up (va_up (noQ) 0 (some q36_0)) 1 (some q36_1)) 2 (some q36_2)) 3 (some q36_3)) 4 (some q36_4)) 5 (some q36_5)) 6 (some q36_6)) 7 (some q36_7)) 8 (some q36_8)) 9 (some q36_9)) :: ((sh_X2 cA q36_0 u40_1_q17 u40_1_q24 u40_1_q31) ++ ((sh_X2 cA q36_1 u40_2_q17 u40_2_q24 u40_2_q31) ++ ((sh_X2 cA q36_2 u40_3_q17 u40_3_q24 u40_3_q31) ++ ((sh_X2 cA q36_3 u40_4_q17 u40_4_q24 u40_4_q31) ++ ((sh_X2 cA q36_4 u40_5_q17 u40_5_q24 u40_5_q31) ++ ((sh_X2 cA q36_5 u40_6_q17 u40_6_q24 u40_6_q31) ++ ((sh_X2 cA q36_6 u40_7_q17 u40_7_q24 u40_7_q31) ++ ((sh_X2 cA q36_7 u40_8_q17 u40_8_q24 u40_8_q31) ++ ((sh_X2 cA q36_8 u40_9_q17 u40_9_q24 u40_9_q31) ++ ((sh_X2 cA q36_9 u40_10_q17 u40_10_q24 u40_10_q31) ++ ([]))))))))))))
abbrev mi_X3 : MdI := (yX3_init, cX3_init, 2, 2, 41, 300, 50)
theorem ok_X3_init : OkI mi_X3 := ⟨cd_X3_init, ini_X3, im_X3_init, rfl, by decide +kernel, by decide +kernel, by decide +kernel⟩
set_option maxRecDepth 100000 in
set_option maxHeartbeats 4000000 in
theorem ic_X3 : InitC mi_X3 3 [.int 0, .int 0, .null] (fun cA h0 w => ∃ q17 q36_0 u40_1_q17 u40_1_q24 u40_1_q31 q36_1 u40_2_q17 u40_2_q24 u40_2_q31 q36_2 u40_3_q17 u40_3_q24 u40_3_q31 q36_3 u40_4_q17 u40_4_q24 u40_4_q31 q36_4 u40_5_q17 u40_5_q24 u40_5_q31 q36_5 u40_6_q17 u40_6_q24 u40_6_q31 q36_6 u40_7_q17 u40_7_q24 u40_7_q31 q36_7 u40_8_q17 u40_8_q24 u40_8_q31 q36_8 u40_9_q17 u40_9_q24 u40_9_q31 q36_9 u40_10_q17 u40_10_q24 u40_10_q31 : Nat, w = sh_X3 cA h0 q17 q36_0 u40_1_q17 u40_1_q24 u40_1_q31 q36_1 u40_2_q17 u40_2_q24 u40_2_q31 q36_2 u40_3_q17 u40_3_q24 u40_3_q31 q36_3 u40_4_q17 u40_4_q24 u40_4_q31 q36_4 u40_5_q17 u40_5_q24 u40_5_q31 q36_5 u40_6_q17 u40_6_q24 u40_6_q31 q36_6 u40_7_q17 u40_7_q24 u40_7_q31 q36_7 u40_8_q17 u40_8_q24 u40_8_q31 q36_8 u40_9_q17 u40_9_q24 u40_9_q31 q36_9 u40_10_q17 u40_10_q24 u40_10_q31) := by
  refine InitC.of (by decide) rfl (Nat.le_of_ble_eq_true rfl) (fun X h0 hG hin hQ => ?_)
  have hG : GI X RX3 cX3_init 2 2 41 300 50 := hG
  show JI X 2 0 [(0, .ref h0)] [] [(h0, .inr (3, [.int 0, .int 0, .null]))] 0 0
  refine JI.aload_n hG 0 0 dX3_init_0 rfl rfl ?_
  refine JI.objInit hG ml_X3_3 (Nat.le_of_ble_eq_true rfl) (Nat.le_of_ble_eq_true rfl) (Nat.le_of_ble_eq_true rfl) dX3_init_1 ?_
  refine JI.aload_n hG 0 0 dX3_init_4 rfl rfl ?_
  refine JI.iconst hG (0) dX3_init_5 rfl ?_
  refine JI.put hG ciX3 0 (Nat.le_of_ble_eq_true rfl) fl_X3_9 rfl rfl rfl (Nat.le_of_ble_eq_true rfl) (fs2 := [.int 0, .int 0, .null]) rfl dX3_init_6 ?_
  refine JI.aload_n hG 0 0 dX3_init_9 rfl rfl ?_
  refine JI.iconst hG (0) dX3_init_10 rfl ?_
  refine JI.put hG ciX3 1 (Nat.le_of_ble_eq_true rfl) fl_X3_15 rfl rfl rfl (Nat.le_of_ble_eq_true rfl) (fs2 := [.int 0, .int 0, .null]) rfl dX3_init_11 ?_
  refine JI.aload_n hG 0 0 dX3_init_14 rfl rfl ?_
  refine JI.bipush hG (10) dX3_init_15 rfl ?_
  refine JI.newQ hG cl_X3_18 (by decide) (N := 10) rfl (by decide) (Nat.le_of_ble_eq_true rfl) (Nat.le_of_ble_eq_true rfl) dX3_init_17 (fun q17 => ?_)
  refine JI.eqw (ws' := (h0, .inr (3, [.int 0, .int 0, .null])) :: (zQ (cAX X) q17 10 (noQ) :: ([]))) (by first | (simp only [zI, zZ, zQ, List.append_assoc, List.cons_append, List.nil_append, List.append_nil]; done) | rfl) ?_
  refine JI.putF hG hin ciX3 2 (Nat.le_of_ble_eq_true rfl) fl_X3_20 rfl rfl rfl rfl (Nat.le_of_ble_eq_true rfl) (fs2 := [.int 0, .int 0, .ref q17]) rfl dX3_init_20 ?_
  refine JI.iconst hG (0) dX3_init_23 rfl ?_
  refine JI.istore_n hG 1 dX3_init_24 rfl (Nat.le_of_ble_eq_true rfl) (L' := [(1, .int 0), (0, .ref h0)]) rfl ?_
  refine JI.iload_n hG 0 1 dX3_init_25 rfl rfl ?_
  refine JI.bipush hG (10) dX3_init_26 rfl ?_
  refine JI.icmp_ge hG 50 dX3_init_28 rfl (fun h => absurd h (by decide)) (fun _ => ?_)
  refine JI.aload_n hG 1 0 dX3_init_31 rfl rfl ?_
  refine JI.getR hG ciX3 2 (Nat.le_of_ble_eq_true rfl) fl_X3_20 rfl dX3_init_32 ?_
  refine JI.iload_n hG 0 1 dX3_init_35 rfl rfl ?_
  refine JI.new hG ciX2 cl_X3_18 inst_X2 ini_X2 (fs := [.int 0, .int 0, .null, .null, .null]) (fun j hj => by rcases (show j = 0 ∨ j = 1 ∨ j = 2 ∨ j = 3 ∨ j = 4 by omega) with rfl | rfl | rfl | rfl | rfl <;> rfl) (Nat.le_of_ble_eq_true rfl) (Nat.le_of_ble_eq_true rfl) dX3_init_36 (fun q36_0 => ?_)
  refine JI.dup hG dX3_init_39 ?_
  refine JI.callN hG ic_X2 ok_X2_init (by simp [nestW]) (Nat.le_of_ble_eq_true rfl) ⟨Nat.le_of_ble_eq_true rfl, Nat.le_of_ble_eq_true rfl⟩ ⟨Nat.le_of_ble_eq_true rfl, Nat.le_of_ble_eq_true rfl⟩ dX3_init_40 (fun w40_1 hw => ?_)
  obtain ⟨u40_1_q17, u40_1_q24, u40_1_q31, rfl⟩ := hw
  refine JI.eqw (ws' := (h0, .inr (3, [.int 0, .int 0, .ref q17])) :: (zQ (cAX X) q17 10 (noQ) :: ((sh_X2 (cAX X) q36_0 u40_1_q17 u40_1_q24 u40_1_q31) ++ ([])))) (by first | (simp only [zI, zZ, zQ, List.append_assoc, List.cons_append, List.nil_append, List.append_nil]; done) | rfl) ?_
  refine JI.eqw (ws' := ((h0, .inr (3, [.int 0, .int 0, .ref q17])) :: ([])) ++ (q17, .inl (cAX X 2, 10, .inr (.inr (.inr (.inr (noQ)))))) :: ((sh_X2 (cAX X) q36_0 u40_1_q17 u40_1_q24 u40_1_q31) ++ ([]))) (by simp only [zQ, List.append_assoc, List.cons_append, List.nil_append, List.append_nil]) ?_
  refine JI.astq hG (qk := 0) rfl (by unfold vp_in; decide) rfl dX3_init_43 ?_
  refine JI.eqw (ws' := (h0, .inr (3, [.int 0, .int 0, .ref q17])) :: (zQ (cAX X) q17 10 (va_up (noQ) 0 (some q36_0)) :: ((sh_X2 (cAX X) q36_0 u40_1_q17 u40_1_q24 u40_1_q31) ++ ([])))) (by first | rfl | simp only [zQ, List.append_assoc, List.cons_append, List.nil_append, List.append_nil]) ?_
  refine JI.iinc hG 0 1 dX3_init_44 rfl (v := 1) rfl (Nat.le_of_ble_eq_true rfl) (L' := [(1, .int 1), (0, .ref h0)]) rfl ?_
  refine JI.goto hG 25 dX3_init_47 rfl ?_
  refine JI.iload_n hG 0 1 dX3_init_25 rfl rfl ?_
  refine JI.bipush hG (10) dX3_init_26 rfl ?_
  refine JI.icmp_ge hG 50 dX3_init_28 rfl (fun h => absurd h (by decide)) (fun _ => ?_)
  refine JI.aload_n hG 1 0 dX3_init_31 rfl rfl ?_
  refine JI.getR hG ciX3 2 (Nat.le_of_ble_eq_true rfl) fl_X3_20 rfl dX3_init_32 ?_
  refine JI.iload_n hG 0 1 dX3_init_35 rfl rfl ?_
  refine JI.new hG ciX2 cl_X3_18 inst_X2 ini_X2 (fs := [.int 0, .int 0, .null, .null, .null]) (fun j hj => by rcases (show j = 0 ∨ j = 1 ∨ j = 2 ∨ j = 3 ∨ j = 4 by omega) with rfl | rfl | rfl | rfl | rfl <;> rfl) (Nat.le_of_ble_eq_true rfl) (Nat.le_of_ble_eq_true rfl) dX3_init_36 (fun q36_1 => ?_)
  refine JI.dup hG dX3_init_39 ?_
  refine JI.callN hG ic_X2 ok_X2_init (by simp [nestW]) (Nat.le_of_ble_eq_true rfl) ⟨Nat.le_of_ble_eq_true rfl, Nat.le_of_ble_eq_true rfl⟩ ⟨Nat.le_of_ble_eq_true rfl, Nat.le_of_ble_eq_true rfl⟩ dX3_init_40 (fun w40_2 hw => ?_)
  obtain ⟨u40_2_q17, u40_2_q24, u40_2_q31, rfl⟩ := hw
  refine JI.eqw (ws' := (h0, .inr (3, [.int 0, .int 0, .ref q17])) :: (zQ (cAX X) q17 10 (va_up (noQ) 0 (some q36_0)) :: ((sh_X2 (cAX X) q36_0 u40_1_q17 u40_1_q24 u40_1_q31) ++ ((sh_X2 (cAX X) q36_1 u40_2_q17 u40_2_q24 u40_2_q31) ++ ([]))))) (by first | (simp only [zI, zZ, zQ, List.append_assoc, List.cons_append, List.nil_append, List.append_nil]; done) | rfl) ?_
  refine JI.eqw (ws' := ((h0, .inr (3, [.int 0, .int 0, .ref q17])) :: ([])) ++ (q17, .inl (cAX X 2, 10, .inr (.inr (.inr (.inr (va_up (noQ) 0 (some q36_0))))))) :: ((sh_X2 (cAX X) q36_0 u40_1_q17 u40_1_q24 u40_1_q31) ++ ((sh_X2 (cAX X) q36_1 u40_2_q17 u40_2_q24 u40_2_q31) ++ ([])))) (by simp only [zQ, List.append_assoc, List.cons_append, List.nil_append, List.append_nil]) ?_
  refine JI.astq hG (qk := 4) rfl (by unfold vp_in; decide) rfl dX3_init_43 ?_
  refine JI.eqw (ws' := (h0, .inr (3, [.int 0, .int 0, .ref q17])) :: (zQ (cAX X) q17 10 (va_up (va_up (noQ) 0 (some q36_0)) 1 (some q36_1)) :: ((sh_X2 (cAX X) q36_0 u40_1_q17 u40_1_q24 u40_1_q31) ++ ((sh_X2 (cAX X) q36_1 u40_2_q17 u40_2_q24 u40_2_q31) ++ ([]))))) (by first | rfl | simp only [zQ, List.append_assoc, List.cons_append, List.nil_append, List.append_nil]) ?_
  refine JI.iinc hG 0 1 dX3_init_44 rfl (v := 2) rfl (Nat.le_of_ble_eq_true rfl) (L' := [(1, .int 2), (0, .ref h0)]) rfl ?_
  refine JI.goto hG 25 dX3_init_47 rfl ?_
  refine JI.iload_n hG 0 1 dX3_init_25 rfl rfl ?_
  refine JI.bipush hG (10) dX3_init_26 rfl ?_
  refine JI.icmp_ge hG 50 dX3_init_28 rfl (fun h => absurd h (by decide)) (fun _ => ?_)
  refine JI.aload_n hG 1 0 dX3_init_31 rfl rfl ?_
  refine JI.getR hG ciX3 2 (Nat.le_of_ble_eq_true rfl) fl_X3_20 rfl dX3_init_32 ?_
  refine JI.iload_n hG 0 1 dX3_init_35 rfl rfl ?_
  refine JI.new hG ciX2 cl_X3_18 inst_X2 ini_X2 (fs := [.int 0, .int 0, .null, .null, .null]) (fun j hj => by rcases (show j = 0 ∨ j = 1 ∨ j = 2 ∨ j = 3 ∨ j = 4 by omega) with rfl | rfl | rfl | rfl | rfl <;> rfl) (Nat.le_of_ble_eq_true rfl) (Nat.le_of_ble_eq_true rfl) dX3_init_36 (fun q36_2 => ?_)
  refine JI.dup hG dX3_init_39 ?_
  refine JI.callN hG ic_X2 ok_X2_init (by simp [nestW]) (Nat.le_of_ble_eq_true rfl) ⟨Nat.le_of_ble_eq_true rfl, Nat.le_of_ble_eq_true rfl⟩ ⟨Nat.le_of_ble_eq_true rfl, Nat.le_of_ble_eq_true rfl⟩ dX3_init_40 (fun w40_3 hw => ?_)
  obtain ⟨u40_3_q17, u40_3_q24, u40_3_q31, rfl⟩ := hw
  refine JI.eqw (ws' := (h0, .inr (3, [.int 0, .int 0, .ref q17])) :: (zQ (cAX X) q17 10 (va_up (va_up (noQ) 0 (some q36_0)) 1 (some q36_1)) :: ((sh_X2 (cAX X) q36_0 u40_1_q17 u40_1_q24 u40_1_q31) ++ ((sh_X2 (cAX X) q36_1 u40_2_q17 u40_2_q24 u40_2_q31) ++ ((sh_X2 (cAX X) q36_2 u40_3_q17 u40_3_q24 u40_3_q31) ++ ([])))))) (by first | (simp only [zI, zZ, zQ, List.append_assoc, List.cons_append, List.nil_append, List.append_nil]; done) | rfl) ?_
  refine JI.eqw (ws' := ((h0, .inr (3, [.int 0, .int 0, .ref q17])) :: ([])) ++ (q17, .inl (cAX X 2, 10, .inr (.inr (.inr (.inr (va_up (va_up (noQ) 0 (some q36_0)) 1 (some q36_1))))))) :: ((sh_X2 (cAX X) q36_0 u40_1_q17 u40_1_q24 u40_1_q31) ++ ((sh_X2 (cAX X) q36_1 u40_2_q17 u40_2_q24 u40_2_q31) ++ ((sh_X2 (cAX X) q36_2 u40_3_q17 u40_3_q24 u40_3_q31) ++ ([]))))) (by simp only [zQ, List.append_assoc, List.cons_append, List.nil_append, List.append_nil]) ?_
  refine JI.astq hG (qk := 8) rfl (by unfold vp_in; decide) rfl dX3_init_43 ?_
  refine JI.eqw (ws' := (h0, .inr (3, [.int 0, .int 0, .ref q17])) :: (zQ (cAX X) q17 10 (va_up (va_up (va_up (noQ) 0 (some q36_0)) 1 (some q36_1)) 2 (some q36_2)) :: ((sh_X2 (cAX X) q36_0 u40_1_q17 u40_1_q24 u40_1_q31) ++ ((sh_X2 (cAX X) q36_1 u40_2_q17 u40_2_q24 u40_2_q31) ++ ((sh_X2 (cAX X) q36_2 u40_3_q17 u40_3_q24 u40_3_q31) ++ ([])))))) (by first | rfl | simp only [zQ, List.append_assoc, List.cons_append, List.nil_append, List.append_nil]) ?_
  refine JI.iinc hG 0 1 dX3_init_44 rfl (v := 3) rfl (Nat.le_of_ble_eq_true rfl) (L' := [(1, .int 3), (0, .ref h0)]) rfl ?_
  refine JI.goto hG 25 dX3_init_47 rfl ?_
  refine JI.iload_n hG 0 1 dX3_init_25 rfl rfl ?_
  refine JI.bipush hG (10) dX3_init_26 rfl ?_
  refine JI.icmp_ge hG 50 dX3_init_28 rfl (fun h => absurd h (by decide)) (fun _ => ?_)
  refine JI.aload_n hG 1 0 dX3_init_31 rfl rfl ?_
  refine JI.getR hG ciX3 2 (Nat.le_of_ble_eq_true rfl) fl_X3_20 rfl dX3_init_32 ?_
  refine JI.iload_n hG 0 1 dX3_init_35 rfl rfl ?_
  refine JI.new hG ciX2 cl_X3_18 inst_X2 ini_X2 (fs := [.int 0, .int 0, .null, .null, .null]) (fun j hj => by rcases (show j = 0 ∨ j = 1 ∨ j = 2 ∨ j = 3 ∨ j = 4 by omega) with rfl | rfl | rfl | rfl | rfl <;> rfl) (Nat.le_of_ble_eq_true rfl) (Nat.le_of_ble_eq_true rfl) dX3_init_36 (fun q36_3 => ?_)
  refine JI.dup hG dX3_init_39 ?_
  refine JI.callN hG ic_X2 ok_X2_init (by simp [nestW]) (Nat.le_of_ble_eq_true rfl) ⟨Nat.le_of_ble_eq_true rfl, Nat.le_of_ble_eq_true rfl⟩ ⟨Nat.le_of_ble_eq_true rfl, Nat.le_of_ble_eq_true rfl⟩ dX3_init_40 (fun w40_4 hw => ?_)
  obtain ⟨u40_4_q17, u40_4_q24, u40_4_q31, rfl⟩ := hw
  refine JI.eqw (ws' := (h0, .inr (3, [.int 0, .int 0, .ref q17])) :: (zQ (cAX X) q17 10 (va_up (va_up (va_up (noQ) 0 (some q36_0)) 1 (some q36_1)) 2 (some q36_2)) :: ((sh_X2 (cAX X) q36_0 u40_1_q17 u40_1_q24 u40_1_q31) ++ ((sh_X2 (cAX X) q36_1 u40_2_q17 u40_2_q24 u40_2_q31) ++ ((sh_X2 (cAX X) q36_2 u40_3_q17 u40_3_q24 u40_3_q31) ++ ((sh_X2 (cAX X) q36_3 u40_4_q17 u40_4_q24 u40_4_q31) ++ ([]))))))) (by first | (simp only [zI, zZ, zQ, List.append_assoc, List.cons_append, List.nil_append, List.append_nil]; done) | rfl) ?_
  refine JI.eqw (ws' := ((h0, .inr (3, [.int 0, .int 0, .ref q17])) :: ([])) ++ (q17, .inl (cAX X 2, 10, .inr (.inr (.inr (.inr (va_up (va_up (va_up (noQ) 0 (some q36_0)) 1 (some q36_1)) 2 (some q36_2))))))) :: ((sh_X2 (cAX X) q36_0 u40_1_q17 u40_1_q24 u40_1_q31) ++ ((sh_X2 (cAX X) q36_1 u40_2_q17 u40_2_q24 u40_2_q31) ++ ((sh_X2 (cAX X) q36_2 u40_3_q17 u40_3_q24 u40_3_q31) ++ ((sh_X2 (cAX X) q36_3 u40_4_q17 u40_4_q24 u40_4_q31) ++ ([])))))) (by simp only [zQ, List.append_assoc, List.cons_append, List.nil_append, List.append_nil]) ?_
  refine JI.astq hG (qk := 12) rfl (by unfold vp_in; decide) rfl dX3_init_43 ?_
  refine JI.eqw (ws' := (h0, .inr (3, [.int 0, .int 0, .ref q17])) :: (zQ (cAX X) q17 10 (va_up (va_up (va_up (va_up (noQ) 0 (some q36_0)) 1 (some q36_1)) 2 (some q36_2)) 3 (some q36_3)) :: ((sh_X2 (cAX X) q36_0 u40_1_q17 u40_1_q24 u40_1_q31) ++ ((sh_X2 (cAX X) q36_1 u40_2_q17 u40_2_q24 u40_2_q31) ++ ((sh_X2 (cAX X) q36_2 u40_3_q17 u40_3_q24 u40_3_q31) ++ ((sh_X2 (cAX X) q36_3 u40_4_q17 u40_4_q24 u40_4_q31) ++ ([]))))))) (by first | rfl | simp only [zQ, List.append_assoc, List.cons_append, List.nil_append, List.append_nil]) ?_
  refine JI.iinc hG 0 1 dX3_init_44 rfl (v := 4) rfl (Nat.le_of_ble_eq_true rfl) (L' := [(1, .int 4), (0, .ref h0)]) rfl ?_
  refine JI.goto hG 25 dX3_init_47 rfl ?_
  refine JI.iload_n hG 0 1 dX3_init_25 rfl rfl ?_
  refine JI.bipush hG (10) dX3_init_26 rfl ?_
  refine JI.icmp_ge hG 50 dX3_init_28 rfl (fun h => absurd h (by decide)) (fun _ => ?_)
  refine JI.aload_n hG 1 0 dX3_init_31 rfl rfl ?_
  refine JI.getR hG ciX3 2 (Nat.le_of_ble_eq_true rfl) fl_X3_20 rfl dX3_init_32 ?_
  refine JI.iload_n hG 0 1 dX3_init_35 rfl rfl ?_
  refine JI.new hG ciX2 cl_X3_18 inst_X2 ini_X2 (fs := [.int 0, .int 0, .null, .null, .null]) (fun j hj => by rcases (show j = 0 ∨ j = 1 ∨ j = 2 ∨ j = 3 ∨ j = 4 by omega) with rfl | rfl | rfl | rfl | rfl <;> rfl) (Nat.le_of_ble_eq_true rfl) (Nat.le_of_ble_eq_true rfl) dX3_init_36 (fun q36_4 => ?_)
  refine JI.dup hG dX3_init_39 ?_
  refine JI.callN hG ic_X2 ok_X2_init (by simp [nestW]) (Nat.le_of_ble_eq_true rfl) ⟨Nat.le_of_ble_eq_true rfl, Nat.le_of_ble_eq_true rfl⟩ ⟨Nat.le_of_ble_eq_true rfl, Nat.le_of_ble_eq_true rfl⟩ dX3_init_40 (fun w40_5 hw => ?_)
  obtain ⟨u40_5_q17, u40_5_q24, u40_5_q31, rfl⟩ := hw
  refine JI.eqw (ws' := (h0, .inr (3, [.int 0, .int 0, .ref q17])) :: (zQ (cAX X) q17 10 (va_up (va_up (va_up (va_up (noQ) 0 (some q36_0)) 1 (some q36_1)) 2 (some q36_2)) 3 (some q36_3)) :: ((sh_X2 (cAX X) q36_0 u40_1_q17 u40_1_q24 u40_1_q31) ++ ((sh_X2 (cAX X) q36_1 u40_2_q17 u40_2_q24 u40_2_q31) ++ ((sh_X2 (cAX X) q36_2 u40_3_q17 u40_3_q24 u40_3_q31) ++ ((sh_X2 (cAX X) q36_3 u40_4_q17 u40_4_q24 u40_4_q31) ++ ((sh_X2 (cAX X) q36_4 u40_5_q17 u40_5_q24 u40_5_q31) ++ ([])))))))) (by first | (simp only [zI, zZ, zQ, List.append_assoc, List.cons_append, List.nil_append, List.append_nil]; done) | rfl) ?_
  refine JI.eqw (ws' := ((h0, .inr (3, [.int 0, .int 0, .ref q17])) :: ([])) ++ (q17, .inl (cAX X 2, 10, .inr (.inr (.inr (.inr (va_up (va_up (va_up (va_up (noQ) 0 (some q36_0)) 1 (some q36_1)) 2 (some q36_2)) 3 (some q36_3))))))) :: ((sh_X2 (cAX X) q36_0 u40_1_q17 u40_1_q24 u40_1_q31) ++ ((sh_X2 (cAX X) q36_1 u40_2_q17 u40_2_q24 u40_2_q31) ++ ((sh_X2 (cAX X) q36_2 u40_3_q17 u40_3_q24 u40_3_q31) ++ ((sh_X2 (cAX X) q36_3 u40_4_q17 u40_4_q24 u40_4_q31) ++ ((sh_X2 (cAX X) q36_4 u40_5_q17 u40_5_q24 u40_5_q31) ++ ([]))))))) (by simp only [zQ, List.append_assoc, List.cons_append, List.nil_append, List.append_nil]) ?_
  refine JI.astq hG (qk := 16) rfl (by unfold vp_in; decide) rfl dX3_init_43 ?_
  refine JI.eqw (ws' := (h0, .inr (3, [.int 0, .int 0, .ref q17])) :: (zQ (cAX X) q17 10 (va_up (va_up (va_up (va_up (va_up (noQ) 0 (some q36_0)) 1 (some q36_1)) 2 (some q36_2)) 3 (some q36_3)) 4 (some q36_4)) :: ((sh_X2 (cAX X) q36_0 u40_1_q17 u40_1_q24 u40_1_q31) ++ ((sh_X2 (cAX X) q36_1 u40_2_q17 u40_2_q24 u40_2_q31) ++ ((sh_X2 (cAX X) q36_2 u40_3_q17 u40_3_q24 u40_3_q31) ++ ((sh_X2 (cAX X) q36_3 u40_4_q17 u40_4_q24 u40_4_q31) ++ ((sh_X2 (cAX X) q36_4 u40_5_q17 u40_5_q24 u40_5_q31) ++ ([])))))))) (by first | rfl | simp only [zQ, List.append_assoc, List.cons_append, List.nil_append, List.append_nil]) ?_
  refine JI.iinc hG 0 1 dX3_init_44 rfl (v := 5) rfl (Nat.le_of_ble_eq_true rfl) (L' := [(1, .int 5), (0, .ref h0)]) rfl ?_
  refine JI.goto hG 25 dX3_init_47 rfl ?_
  refine JI.iload_n hG 0 1 dX3_init_25 rfl rfl ?_
  refine JI.bipush hG (10) dX3_init_26 rfl ?_
  refine JI.icmp_ge hG 50 dX3_init_28 rfl (fun h => absurd h (by decide)) (fun _ => ?_)
  refine JI.aload_n hG 1 0 dX3_init_31 rfl rfl ?_
  refine JI.getR hG ciX3 2 (Nat.le_of_ble_eq_true rfl) fl_X3_20 rfl dX3_init_32 ?_
  refine JI.iload_n hG 0 1 dX3_init_35 rfl rfl ?_
  refine JI.new hG ciX2 cl_X3_18 inst_X2 ini_X2 (fs := [.int 0, .int 0, .null, .null, .null]) (fun j hj => by rcases (show j = 0 ∨ j = 1 ∨ j = 2 ∨ j = 3 ∨ j = 4 by omega) with rfl | rfl | rfl | rfl | rfl <;> rfl) (Nat.le_of_ble_eq_true rfl) (Nat.le_of_ble_eq_true rfl) dX3_init_36 (fun q36_5 => ?_)
  refine JI.dup hG dX3_init_39 ?_
  refine JI.callN hG ic_X2 ok_X2_init (by simp [nestW]) (Nat.le_of_ble_eq_true rfl) ⟨Nat.le_of_ble_eq_true rfl, Nat.le_of_ble_eq_true rfl⟩ ⟨Nat.le_of_ble_eq_true rfl, Nat.le_of_ble_eq_true rfl⟩ dX3_init_40 (fun w40_6 hw => ?_)
  obtain ⟨u40_6_q17, u40_6_q24, u40_6_q31, rfl⟩ := hw
  refine JI.eqw (ws' := (h0, .inr (3, [.int 0, .int 0, .ref q17])) :: (zQ (cAX X) q17 10 (va_up (va_up (va_up (va_up (va_up (noQ) 0 (some q36_0)) 1 (some q36_1)) 2 (some q36_2)) 3 (some q36_3)) 4 (some q36_4)) :: ((sh_X2 (cAX X) q36_0 u40_1_q17 u40_1_q24 u40_1_q31) ++ ((sh_X2 (cAX X) q36_1 u40_2_q17 u40_2_q24 u40_2_q31) ++ ((sh_X2 (cAX X) q36_2 u40_3_q17 u40_3_q24 u40_3_q31) ++ ((sh_X2 (cAX X) q36_3 u40_4_q17 u40_4_q24 u40_4_q31) ++ ((sh_X2 (cAX X) q36_4 u40_5_q17 u40_5_q24 u40_5_q31) ++ ((sh_X2 (cAX X) q36_5 u40_6_q17 u40_6_q24 u40_6_q31) ++ ([]))))))))) (by first | (simp only [zI, zZ, zQ, List.append_assoc, List.cons_append, List.nil_append, List.append_nil]; done) | rfl) ?_
  refine JI.eqw (ws' := ((h0, .inr (3, [.int 0, .int 0, .ref q17])) :: ([])) ++ (q17, .inl (cAX X 2, 10, .inr (.inr (.inr (.inr (va_up (va_up (va_up (va_up (va_up (noQ) 0 (some q36_0)) 1 (some q36_1)) 2 (some q36_2)) 3 (some q36_3)) 4 (some q36_4))))))) :: ((sh_X2 (cAX X) q36_0 u40_1_q17 u40_1_q24 u40_1_q31) ++ ((sh_X2 (cAX X) q36_1 u40_2_q17 u40_2_q24 u40_2_q31) ++ ((sh_X2 (cAX X) q36_2 u40_3_q17 u40_3_q24 u40_3_q31) ++ ((sh_X2 (cAX X) q36_3 u40_4_q17 u40_4_q24 u40_4_q31) ++ ((sh_X2 (cAX X) q36_4 u40_5_q17 u40_5_q24 u40_5_q31) ++ ((sh_X2 (cAX X) q36_5 u40_6_q17 u40_6_q24 u40_6_q31) ++ ([])))))))) (by simp only [zQ, List.append_assoc, List.cons_append, List.nil_append, List.append_nil]) ?_
  refine JI.astq hG (qk := 20) rfl (by unfold vp_in; decide) rfl dX3_init_43 ?_
  refine JI.eqw (ws' := (h0, .inr (3, [.int 0, .int 0, .ref q17])) :: (zQ (cAX X) q17 10 (va_up (va_up (va_up (va_up (va_up (va_up (noQ) 0 (some q36_0)) 1 (some q36_1)) 2 (some q36_2)) 3 (some q36_3)) 4 (some q36_4)) 5 (some q36_5)) :: ((sh_X2 (cAX X) q36_0 u40_1_q17 u40_1_q24 u40_1_q31) ++ ((sh_X2 (cAX X) q36_1 u40_2_q17 u40_2_q24 u40_2_q31) ++ ((sh_X2 (cAX X) q36_2 u40_3_q17 u40_3_q24 u40_3_q31) ++ ((sh_X2 (cAX X) q36_3 u40_4_q17 u40_4_q24 u40_4_q31) ++ ((sh_X2 (cAX X) q36_4 u40_5_q17 u40_5_q24 u40_5_q31) ++ ((sh_X2 (cAX X) q36_5 u40_6_q17 u40_6_q24 u40_6_q31) ++ ([]))))))))) (by first | rfl | simp only [zQ, List.append_assoc, List.cons_append, List.nil_append, List.append_nil]) ?_
  refine JI.iinc hG 0 1 dX3_init_44 rfl (v := 6) rfl (Nat.le_of_ble_eq_true rfl) (L' := [(1, .int 6), (0, .ref h0)]) rfl ?_
  refine JI.goto hG 25 dX3_init_47 rfl ?_
  refine JI.iload_n hG 0 1 dX3_init_25 rfl rfl ?_
  refine JI.bipush hG (10) dX3_init_26 rfl ?_
  refine JI.icmp_ge hG 50 dX3_init_28 rfl (fun h => absurd h (by decide)) (fun _ => ?_)
  refine JI.aload_n hG 1 0 dX3_init_31 rfl rfl ?_
  refine JI.getR hG ciX3 2 (Nat.le_of_ble_eq_true rfl) fl_X3_20 rfl dX3_init_32 ?_
  refine JI.iload_n hG 0 1 dX3_init_35 rfl rfl ?_
  refine JI.new hG ciX2 cl_X3_18 inst_X2 ini_X2 (fs := [.int 0, .int 0, .null, .null, .null]) (fun j hj => by rcases (show j = 0 ∨ j = 1 ∨ j = 2 ∨ j = 3 ∨ j = 4 by omega) with rfl | rfl | rfl | rfl | rfl <;> rfl) (Nat.le_of_ble_eq_true rfl) (Nat.le_of_ble_eq_true rfl) dX3_init_36 (fun q36_6 => ?_)
  refine JI.dup hG dX3_init_39 ?_
  refine JI.callN hG ic_X2 ok_X2_init (by simp [nestW]) (Nat.le_of_ble_eq_true rfl) ⟨Nat.le_of_ble_eq_true rfl, Nat.le_of_ble_eq_true rfl⟩ ⟨Nat.le_of_ble_eq_true rfl, Nat.le_of_ble_eq_true rfl⟩ dX3_init_40 (fun w40_7 hw => ?_)
  obtain ⟨u40_7_q17, u40_7_q24, u40_7_q31, rfl⟩ := hw
  refine JI.eqw (ws' := (h0, .inr (3, [.int 0, .int 0, .ref q17])) :: (zQ (cAX X) q17 10 (va_up (va_up (va_up (va_up (va_up (va_up (noQ) 0 (some q36_0)) 1 (some q36_1)) 2 (some q36_2)) 3 (some q36_3)) 4 (some q36_4)) 5 (some q36_5)) :: ((sh_X2 (cAX X) q36_0 u40_1_q17 u40_1_q24 u40_1_q31) ++ ((sh_X2 (cAX X) q36_1 u40_2_q17 u40_2_q24 u40_2_q31) ++ ((sh_X2 (cAX X) q36_2 u40_3_q17 u40_3_q24 u40_3_q31) ++ ((sh_X2 (cAX X) q36_3 u40_4_q17 u40_4_q24 u40_4_q31) ++ ((sh_X2 (cAX X) q36_4 u40_5_q17 u40_5_q24 u40_5_q31) ++ ((sh_X2 (cAX X) q36_5 u40_6_q17 u40_6_q24 u40_6_q31) ++ ((sh_X2 (cAX X) q36_6 u40_7_q17 u40_7_q24 u40_7_q31) ++ ([])))))))))) (by first | (simp only [zI, zZ, zQ, List.append_assoc, List.cons_append, List.nil_append, List.append_nil]; done) | rfl) ?_
  refine JI.eqw (ws' := ((h0, .inr (3, [.int 0, .int 0, .ref q17])) :: ([])) ++ (q17, .inl (cAX X 2, 10, .inr (.inr (.inr (.inr (va_up (va_up (va_up (va_up (va_up (va_up (noQ) 0 (some q36_0)) 1 (some q36_1)) 2 (some q36_2)) 3 (some q36_3)) 4 (some q36_4)) 5 (some q36_5))))))) :: ((sh_X2 (cAX X) q36_0 u40_1_q17 u40_1_q24 u40_1_q31) ++ ((sh_X2 (cAX X) q36_1 u40_2_q17 u40_2_q24 u40_2_q31) ++ ((sh_X2 (cAX X) q36_2 u40_3_q17 u40_3_q24 u40_3_q31) ++ ((sh_X2 (cAX X) q36_3 u40_4_q17 u40_4_q24 u40_4_q31) ++ ((sh_X2 (cAX X) q36_4 u40_5_q17 u40_5_q24 u40_5_q31) ++ ((sh_X2 (cAX X) q36_5 u40_6_q17 u40_6_q24 u40_6_q31) ++ ((sh_X2 (cAX X) q36_6 u40_7_q17 u40_7_q24 u40_7_q31) ++ ([]))))))))) (by simp only [zQ, List.append_assoc, List.cons_append, List.nil_append, List.append_nil]) ?_
  refine JI.astq hG (qk := 24) rfl (by unfold vp_in; decide) rfl dX3_init_43 ?_
  refine JI.eqw (ws' := (h0, .inr (3, [.int 0, .int 0, .ref q17])) :: (zQ (cAX X) q17 10 (va_up (va_up (va_up (va_up (va_up (va_up (va_up (noQ) 0 (some q36_0)) 1 (some q36_1)) 2 (some q36_2)) 3 (some q36_3)) 4 (some q36_4)) 5 (some q36_5)) 6 (some q36_6)) :: ((sh_X2 (cAX X) q36_0 u40_1_q17 u40_1_q24 u40_1_q31) ++ ((sh_X2 (cAX X) q36_1 u40_2_q17 u40_2_q24 u40_2_q31) ++ ((sh_X2 (cAX X) q36_2 u40_3_q17 u40_3_q24 u40_3_q31) ++ ((sh_X2 (cAX X) q36_3 u40_4_q17 u40_4_q24 u40_4_q31) ++ ((sh_X2 (cAX X) q36_4 u40_5_q17 u40_5_q24 u40_5_q31) ++ ((sh_X2 (cAX X) q36_5 u40_6_q17 u40_6_q24 u40_6_q31) ++ ((sh_X2 (cAX X) q36_6 u40_7_q17 u40_7_q24 u40_7_q31) ++ ([])))))))))) (by first | rfl | simp only [zQ, List.append_assoc, List.cons_append, List.nil_append, List.append_nil]) ?_
  refine JI.iinc hG 0 1 dX3_init_44 rfl (v := 7) rfl (Nat.le_of_ble_eq_true rfl) (L' := [(1, .int 7), (0, .ref h0)]) rfl ?_
  refine JI.goto hG 25 dX3_init_47 rfl ?_
  refine JI.iload_n hG 0 1 dX3_init_25 rfl rfl ?_
  refine JI.bipush hG (10) dX3_init_26 rfl ?_
  refine JI.icmp_ge hG 50 dX3_init_28 rfl (fun h => absurd h (by decide)) (fun _ => ?_)
  refine JI.aload_n hG 1 0 dX3_init_31 rfl rfl ?_
  refine JI.getR hG ciX3 2 (Nat.le_of_ble_eq_true rfl) fl_X3_20 rfl dX3_init_32 ?_
  refine JI.iload_n hG 0 1 dX3_init_35 rfl rfl ?_
  refine JI.new hG ciX2 cl_X3_18 inst_X2 ini_X2 (fs := [.int 0, .int 0, .null, .null, .null]) (fun j hj => by rcases (show j = 0 ∨ j = 1 ∨ j = 2 ∨ j = 3 ∨ j = 4 by omega) with rfl | rfl | rfl | rfl | rfl <;> rfl) (Nat.le_of_ble_eq_true rfl) (Nat.le_of_ble_eq_true rfl) dX3_init_36 (fun q36_7 => ?_)
  refine JI.dup hG dX3_init_39 ?_
  refine JI.callN hG ic_X2 ok_X2_init (by simp [nestW]) (Nat.le_of_ble_eq_true rfl) ⟨Nat.le_of_ble_eq_true rfl, Nat.le_of_ble_eq_true rfl⟩ ⟨Nat.le_of_ble_eq_true rfl, Nat.le_of_ble_eq_true rfl⟩ dX3_init_40 (fun w40_8 hw => ?_)
  obtain ⟨u40_8_q17, u40_8_q24, u40_8_q31, rfl⟩ := hw
  refine JI.eqw (ws' := (h0, .inr (3, [.int 0, .int 0, .ref q17])) :: (zQ (cAX X) q17 10 (va_up (va_up (va_up (va_up (va_up (va_up (va_up (noQ) 0 (some q36_0)) 1 (some q36_1)) 2 (some q36_2)) 3 (some q36_3)) 4 (some q36_4)) 5 (some q36_5)) 6 (some q36_6)) :: ((sh_X2 (cAX X) q36_0 u40_1_q17 u40_1_q24 u40_1_q31) ++ ((sh_X2 (cAX X) q36_1 u40_2_q17 u40_2_q24 u40_2_q31) ++ ((sh_X2 (cAX X) q36_2 u40_3_q17 u40_3_q24 u40_3_q31) ++ ((sh_X2 (cAX X) q36_3 u40_4_q17 u40_4_q24 u40_4_q31) ++ ((sh_X2 (cAX X) q36_4 u40_5_q17 u40_5_q24 u40_5_q31) ++ ((sh_X2 (cAX X) q36_5 u40_6_q17 u40_6_q24 u40_6_q31) ++ ((sh_X2 (cAX X) q36_6 u40_7_q17 u40_7_q24 u40_7_q31) ++ ((sh_X2 (cAX X) q36_7 u40_8_q17 u40_8_q24 u40_8_q31) ++ ([]))))))))))) (by first | (simp only [zI, zZ, zQ, List.append_assoc, List.cons_append, List.nil_append, List.append_nil]; done) | rfl) ?_
  refine JI.eqw (ws' := ((h0, .inr (3, [.int 0, .int 0, .ref q17])) :: ([])) ++ (q17, .inl (cAX X 2, 10, .inr (.inr (.inr (.inr (va_up (va_up (va_up (va_up (va_up (va_up (va_up (noQ) 0 (some q36_0)) 1 (some q36_1)) 2 (some q36_2)) 3 (some q36_3)) 4 (some q36_4)) 5 (some q36_5)) 6 (some q36_6))))))) :: ((sh_X2 (cAX X) q36_0 u40_1_q17 u40_1_q24 u40_1_q31) ++ ((sh_X2 (cAX X) q36_1 u40_2_q17 u40_2_q24 u40_2_q31) ++ ((sh_X2 (cAX X) q36_2 u40_3_q17 u40_3_q24 u40_3_q31) ++ ((sh_X2 (cAX X) q36_3 u40_4_q17 u40_4_q24 u40_4_q31) ++ ((sh_X2 (cAX X) q36_4 u40_5_q17 u40_5_q24 u40_5_q31) ++ ((sh_X2 (cAX X) q36_5 u40_6_q17 u40_6_q24 u40_6_q31) ++ ((sh_X2 (cAX X) q36_6 u40_7_q17 u40_7_q24 u40_7_q31) ++ ((sh_X2 (cAX X) q36_7 u40_8_q17 u40_8_q24 u40_8_q31) ++ ([])))))))))) (by simp only [zQ, List.append_assoc, List.cons_append, List.nil_append, List.append_nil]) ?_
  refine JI.astq hG (qk := 28) rfl (by unfold vp_in; decide) rfl dX3_init_43 ?_
  refine JI.eqw (ws' := (h0, .inr (3, [.int 0, .int 0, .ref q17])) :: (zQ (cAX X) q17 10 (va_up (va_up (va_up (va_up (va_up (va_up (va_up (va_up (noQ) 0 (some q36_0)) 1 (some q36_1)) 2 (some q36_2)) 3 (some q36_3)) 4 (some q36_4)) 5 (some q36_5)) 6 (some q36_6)) 7 (some q36_7)) :: ((sh_X2 (cAX X) q36_0 u40_1_q17 u40_1_q24 u40_1_q31) ++ ((sh_X2 (cAX X) q36_1 u40_2_q17 u40_2_q24 u40_2_q31) ++ ((sh_X2 (cAX X) q36_2 u40_3_q17 u40_3_q24 u40_3_q31) ++ ((sh_X2 (cAX X) q36_3 u40_4_q17 u40_4_q24 u40_4_q31) ++ ((sh_X2 (cAX X) q36_4 u40_5_q17 u40_5_q24 u40_5_q31) ++ ((sh_X2 (cAX X) q36_5 u40_6_q17 u40_6_q24 u40_6_q31) ++ ((sh_X2 (cAX X) q36_6 u40_7_q17 u40_7_q24 u40_7_q31) ++ ((sh_X2 (cAX X) q36_7 u40_8_q17 u40_8_q24 u40_8_q31) ++ ([]))))))))))) (by first | rfl | simp only [zQ, List.append_assoc, List.cons_append, List.nil_append, List.append_nil]) ?_
  refine JI.iinc hG 0 1 dX3_init_44 rfl (v := 8) rfl (Nat.le_of_ble_eq_true rfl) (L' := [(1, .int 8), (0, .ref h0)]) rfl ?_
  refine JI.goto hG 25 dX3_init_47 rfl ?_
  refine JI.iload_n hG 0 1 dX3_init_25 rfl rfl ?_
  refine JI.bipush hG (10) dX3_init_26 rfl ?_
  refine JI.icmp_ge hG 50 dX3_init_28 rfl (fun h => absurd h (by decide)) (fun _ => ?_)
  refine JI.aload_n hG 1 0 dX3_init_31 rfl rfl ?_
  refine JI.getR hG ciX3 2 (Nat.le_of_ble_eq_true rfl) fl_X3_20 rfl dX3_init_32 ?_
  refine JI.iload_n hG 0 1 dX3_init_35 rfl rfl ?_
  refine JI.new hG ciX2 cl_X3_18 inst_X2 ini_X2 (fs := [.int 0, .int 0, .null, .null, .null]) (fun j hj => by rcases (show j = 0 ∨ j = 1 ∨ j = 2 ∨ j = 3 ∨ j = 4 by omega) with rfl | rfl | rfl | rfl | rfl <;> rfl) (Nat.le_of_ble_eq_true rfl) (Nat.le_of_ble_eq_true rfl) dX3_init_36 (fun q36_8 => ?_)
  refine JI.dup hG dX3_init_39 ?_
  refine JI.callN hG ic_X2 ok_X2_init (by simp [nestW]) (Nat.le_of_ble_eq_true rfl) ⟨Nat.le_of_ble_eq_true rfl, Nat.le_of_ble_eq_true rfl⟩ ⟨Nat.le_of_ble_eq_true rfl, Nat.le_of_ble_eq_true rfl⟩ dX3_init_40 (fun w40_9 hw => ?_)
  obtain ⟨u40_9_q17, u40_9_q24, u40_9_q31, rfl⟩ := hw
  refine JI.eqw (ws' := (h0, .inr (3, [.int 0, .int 0, .ref q17])) :: (zQ (cAX X) q17 10 (va_up (va_up (va_up (va_up (va_up (va_up (va_up (va_up (noQ) 0 (some q36_0)) 1 (some q36_1)) 2 (some q36_2)) 3 (some q36_3)) 4 (some q36_4)) 5 (some q36_5)) 6 (some q36_6)) 7 (some q36_7)) :: ((sh_X2 (cAX X) q36_0 u40_1_q17 u40_1_q24 u40_1_q31) ++ ((sh_X2 (cAX X) q36_1 u40_2_q17 u40_2_q24 u40_2_q31) ++ ((sh_X2 (cAX X) q36_2 u40_3_q17 u40_3_q24 u40_3_q31) ++ ((sh_X2 (cAX X) q36_3 u40_4_q17 u40_4_q24 u40_4_q31) ++ ((sh_X2 (cAX X) q36_4 u40_5_q17 u40_5_q24 u40_5_q31) ++ ((sh_X2 (cAX X) q36_5 u40_6_q17 u40_6_q24 u40_6_q31) ++ ((sh_X2 (cAX X) q36_6 u40_7_q17 u40_7_q24 u40_7_q31) ++ ((sh_X2 (cAX X) q36_7 u40_8_q17 u40_8_q24 u40_8_q31) ++ ((sh_X2 (cAX X) q36_8 u40_9_q17 u40_9_q24 u40_9_q31) ++ ([])))))))))))) (by first | (simp only [zI, zZ, zQ, List.append_assoc, List.cons_append, List.nil_append, List.append_nil]; done) | rfl) ?_
  refine JI.eqw (ws' := ((h0, .inr (3, [.int 0, .int 0, .ref q17])) :: ([])) ++ (q17, .inl (cAX X 2, 10, .inr (.inr (.inr (.inr (va_up (va_up (va_up (va_up (va_up (va_up (va_up (va_up (noQ) 0 (some q36_0)) 1 (some q36_1)) 2 (some q36_2)) 3 (some q36_3)) 4 (some q36_4)) 5 (some q36_5)) 6 (some q36_6)) 7 (some q36_7))))))) :: ((sh_X2 (cAX X) q36_0 u40_1_q17 u40_1_q24 u40_1_q31) ++ ((sh_X2 (cAX X) q36_1 u40_2_q17 u40_2_q24 u40_2_q31) ++ ((sh_X2 (cAX X) q36_2 u40_3_q17 u40_3_q24 u40_3_q31) ++ ((sh_X2 (cAX X) q36_3 u40_4_q17 u40_4_q24 u40_4_q31) ++ ((sh_X2 (cAX X) q36_4 u40_5_q17 u40_5_q24 u40_5_q31) ++ ((sh_X2 (cAX X) q36_5 u40_6_q17 u40_6_q24 u40_6_q31) ++ ((sh_X2 (cAX X) q36_6 u40_7_q17 u40_7_q24 u40_7_q31) ++ ((sh_X2 (cAX X) q36_7 u40_8_q17 u40_8_q24 u40_8_q31) ++ ((sh_X2 (cAX X) q36_8 u40_9_q17 u40_9_q24 u40_9_q31) ++ ([]))))))))))) (by simp only [zQ, List.append_assoc, List.cons_append, List.nil_append, List.append_nil]) ?_
  refine JI.astq hG (qk := 32) rfl (by unfold vp_in; decide) rfl dX3_init_43 ?_
  refine JI.eqw (ws' := (h0, .inr (3, [.int 0, .int 0, .ref q17])) :: (zQ (cAX X) q17 10 (va_up (va_up (va_up (va_up (va_up (va_up (va_up (va_up (va_up (noQ) 0 (some q36_0)) 1 (some q36_1)) 2 (some q36_2)) 3 (some q36_3)) 4 (some q36_4)) 5 (some q36_5)) 6 (some q36_6)) 7 (some q36_7)) 8 (some q36_8)) :: ((sh_X2 (cAX X) q36_0 u40_1_q17 u40_1_q24 u40_1_q31) ++ ((sh_X2 (cAX X) q36_1 u40_2_q17 u40_2_q24 u40_2_q31) ++ ((sh_X2 (cAX X) q36_2 u40_3_q17 u40_3_q24 u40_3_q31) ++ ((sh_X2 (cAX X) q36_3 u40_4_q17 u40_4_q24 u40_4_q31) ++ ((sh_X2 (cAX X) q36_4 u40_5_q17 u40_5_q24 u40_5_q31) ++ ((sh_X2 (cAX X) q36_5 u40_6_q17 u40_6_q24 u40_6_q31) ++ ((sh_X2 (cAX X) q36_6 u40_7_q17 u40_7_q24 u40_7_q31) ++ ((sh_X2 (cAX X) q36_7 u40_8_q17 u40_8_q24 u40_8_q31) ++ ((sh_X2 (cAX X) q36_8 u40_9_q17 u40_9_q24 u40_9_q31) ++ ([])))))))))))) (by first | rfl | simp only [zQ, List.append_assoc, List.cons_append, List.nil_append, List.append_nil]) ?_
  refine JI.iinc hG 0 1 dX3_init_44 rfl (v := 9) rfl (Nat.le_of_ble_eq_true rfl) (L' := [(1, .int 9), (0, .ref h0)]) rfl ?_
  refine JI.goto hG 25 dX3_init_47 rfl ?_
  refine JI.iload_n hG 0 1 dX3_init_25 rfl rfl ?_
  refine JI.bipush hG (10) dX3_init_26 rfl ?_
  refine JI.icmp_ge hG 50 dX3_init_28 rfl (fun h => absurd h (by decide)) (fun _ => ?_)
  refine JI.aload_n hG 1 0 dX3_init_31 rfl rfl ?_
  refine JI.getR hG ciX3 2 (Nat.le_of_ble_eq_true rfl) fl_X3_20 rfl dX3_init_32 ?_
  refine JI.iload_n hG 0 1 dX3_init_35 rfl rfl ?_
  refine JI.new hG ciX2 cl_X3_18 inst_X2 ini_X2 (fs := [.int 0, .int 0, .null, .null, .null]) (fun j hj => by rcases (show j = 0 ∨ j = 1 ∨ j = 2 ∨ j = 3 ∨ j = 4 by omega) with rfl | rfl | rfl | rfl | rfl <;> rfl) (Nat.le_of_ble_eq_true rfl) (Nat.le_of_ble_eq_true rfl) dX3_init_36 (fun q36_9 => ?_)
  refine JI.dup hG dX3_init_39 ?_
  refine JI.callN hG ic_X2 ok_X2_init (by simp [nestW]) (Nat.le_of_ble_eq_true rfl) ⟨Nat.le_of_ble_eq_true rfl, Nat.le_of_ble_eq_true rfl⟩ ⟨Nat.le_of_ble_eq_true rfl, Nat.le_of_ble_eq_true rfl⟩ dX3_init_40 (fun w40_10 hw => ?_)
  obtain ⟨u40_10_q17, u40_10_q24, u40_10_q31, rfl⟩ := hw
  refine JI.eqw (ws' := (h0, .inr (3, [.int 0, .int 0, .ref q17])) :: (zQ (cAX X) q17 10 (va_up (va_up (va_up (va_up (va_up (va_up (va_up (va_up (va_up (noQ) 0 (some q36_0)) 1 (some q36_1)) 2 (some q36_2)) 3 (some q36_3)) 4 (some q36_4)) 5 (some q36_5)) 6 (some q36_6)) 7 (some q36_7)) 8 (some q36_8)) :: ((sh_X2 (cAX X) q36_0 u40_1_q17 u40_1_q24 u40_1_q31) ++ ((sh_X2 (cAX X) q36_1 u40_2_q17 u40_2_q24 u40_2_q31) ++ ((sh_X2 (cAX X) q36_2 u40_3_q17 u40_3_q24 u40_3_q31) ++ ((sh_X2 (cAX X) q36_3 u40_4_q17 u40_4_q24 u40_4_q31) ++ ((sh_X2 (cAX X) q36_4 u40_5_q17 u40_5_q24 u40_5_q31) ++ ((sh_X2 (cAX X) q36_5 u40_6_q17 u40_6_q24 u40_6_q31) ++ ((sh_X2 (cAX X) q36_6 u40_7_q17 u40_7_q24 u40_7_q31) ++ ((sh_X2 (cAX X) q36_7 u40_8_q17 u40_8_q24 u40_8_q31) ++ ((sh_X2 (cAX X) q36_8 u40_9_q17 u40_9_q24 u40_9_q31) ++ ((sh_X2 (cAX X) q36_9 u40_10_q17 u40_10_q24 u40_10_q31) ++ ([]))))))))))))) (by first | (simp only [zI, zZ, zQ, List.append_assoc, List.cons_append, List.nil_append, List.append_nil]; done) | rfl) ?_
  refine JI.eqw (ws' := ((h0, .inr (3, [.int 0, .int 0, .ref q17])) :: ([])) ++ (q17, .inl (cAX X 2, 10, .inr (.inr (.inr (.inr (va_up (va_up (va_up (va_up (va_up (va_up (va_up (va_up (va_up (noQ) 0 (some q36_0)) 1 (some q36_1)) 2 (some q36_2)) 3 (some q36_3)) 4 (some q36_4)) 5 (some q36_5)) 6 (some q36_6)) 7 (some q36_7)) 8 (some q36_8))))))) :: ((sh_X2 (cAX X) q36_0 u40_1_q17 u40_1_q24 u40_1_q31) ++ ((sh_X2 (cAX X) q36_1 u40_2_q17 u40_2_q24 u40_2_q31) ++ ((sh_X2 (cAX X) q36_2 u40_3_q17 u40_3_q24 u40_3_q31) ++ ((sh_X2 (cAX X) q36_3 u40_4_q17 u40_4_q24 u40_4_q31) ++ ((sh_X2 (cAX X) q36_4 u40_5_q17 u40_5_q24 u40_5_q31) ++ ((sh_X2 (cAX X) q36_5 u40_6_q17 u40_6_q24 u40_6_q31) ++ ((sh_X2 (cAX X) q36_6 u40_7_q17 u40_7_q24 u40_7_q31) ++ ((sh_X2 (cAX X) q36_7 u40_8_q17 u40_8_q24 u40_8_q31) ++ ((sh_X2 (cAX X) q36_8 u40_9_q17 u40_9_q24 u40_9_q31) ++ ((sh_X2 (cAX X) q36_9 u40_10_q17 u40_10_q24 u40_10_q31) ++ ([])))))))))))) (by simp only [zQ, List.append_assoc, List.cons_append, List.nil_append, List.append_nil]) ?_
  refine JI.astq hG (qk := 36) rfl (by unfold vp_in; decide) rfl dX3_init_43 ?_
  refine JI.eqw (ws' := (h0, .inr (3, [.int 0, .int 0, .ref q17])) :: (zQ (cAX X) q17 10 (va_up (va_up (va_up (va_up (va_up (va_up (va_up (va_up (va_up (va_up (noQ) 0 (some q36_0)) 1 (some q36_1)) 2 (some q36_2)) 3 (some q36_3)) 4 (some q36_4)) 5 (some q36_5)) 6 (some q36_6)) 7 (some q36_7)) 8 (some q36_8)) 9 (some q36_9)) :: ((sh_X2 (cAX X) q36_0 u40_1_q17 u40_1_q24 u40_1_q31) ++ ((sh_X2 (cAX X) q36_1 u40_2_q17 u40_2_q24 u40_2_q31) ++ ((sh_X2 (cAX X) q36_2 u40_3_q17 u40_3_q24 u40_3_q31) ++ ((sh_X2 (cAX X) q36_3 u40_4_q17 u40_4_q24 u40_4_q31) ++ ((sh_X2 (cAX X) q36_4 u40_5_q17 u40_5_q24 u40_5_q31) ++ ((sh_X2 (cAX X) q36_5 u40_6_q17 u40_6_q24 u40_6_q31) ++ ((sh_X2 (cAX X) q36_6 u40_7_q17 u40_7_q24 u40_7_q31) ++ ((sh_X2 (cAX X) q36_7 u40_8_q17 u40_8_q24 u40_8_q31) ++ ((sh_X2 (cAX X) q36_8 u40_9_q17 u40_9_q24 u40_9_q31) ++ ((sh_X2 (cAX X) q36_9 u40_10_q17 u40_10_q24 u40_10_q31) ++ ([]))))))))))))) (by first | rfl | simp only [zQ, List.append_assoc, List.cons_append, List.nil_append, List.append_nil]) ?_
  refine JI.iinc hG 0 1 dX3_init_44 rfl (v := 10) rfl (Nat.le_of_ble_eq_true rfl) (L' := [(1, .int 10), (0, .ref h0)]) rfl ?_
  refine JI.goto hG 25 dX3_init_47 rfl ?_
  refine JI.iload_n hG 0 1 dX3_init_25 rfl rfl ?_
  refine JI.bipush hG (10) dX3_init_26 rfl ?_
  refine JI.icmp_ge hG 50 dX3_init_28 rfl (fun _ => ?_) (fun h => absurd (by decide) h)
  refine JI.vret hG hQ dX3_init_50 ?_
  exact ⟨q17, q36_0, u40_1_q17, u40_1_q24, u40_1_q31, q36_1, u40_2_q17, u40_2_q24, u40_2_q31, q36_2, u40_3_q17, u40_3_q24, u40_3_q31, q36_3, u40_4_q17, u40_4_q24, u40_4_q31, q36_4, u40_5_q17, u40_5_q24, u40_5_q31, q36_5, u40_6_q17, u40_6_q24, u40_6_q31, q36_6, u40_7_q17, u40_7_q24, u40_7_q31, q36_7, u40_8_q17, u40_8_q24, u40_8_q31, q36_8, u40_9_q17, u40_9_q24, u40_9_q31, q36_9, u40_10_q17, u40_10_q24, u40_10_q31, rfl⟩
def sh_X5 (cA : Nat → ClassId) (h0 q10_0 u14_1_q26 u14_1_q34 u14_1_q42 q21_1 u25_2_q17 u25_2_q24 u25_2_q31 q35 q44 q53 : Nat) : va_W := (h0, .inr (5, [.int 0, .ref q10_0, .ref q21_1, .ref q35, .ref q44, .ref q53, .int 0, .int 0, .int (-1), .int 0])) :: ((sh_X1 cA q10_0 u14_1_q26 u14_1_q34 u14_1_q42) ++ ((sh_X2 cA q21_1 u25_2_q17 u25_2_q24 u25_2_q31) ++ (zI cA q35 200 :: (zI cA q44 201 :: (zI cA q53 201 :: ([]))))))
abbrev mi_X5 : MdI := (yX5_init, cX5_init, 1, 2, 11, 666, 50)
theorem ok_X5_init : OkI mi_X5 := ⟨cd_X5_init, ini_X5, im_X5_init, rfl, by decide +kernel, by decide +kernel, by decide +kernel⟩
set_option maxRecDepth 100000 in
set_option maxHeartbeats 4000000 in
theorem ic_X5 : InitC mi_X5 5 [.int 0, .null, .null, .null, .null, .null, .int 0, .int 0, .int 0, .int 0] (fun cA h0 w => ∃ q10_0 u14_1_q26 u14_1_q34 u14_1_q42 q21_1 u25_2_q17 u25_2_q24 u25_2_q31 q35 q44 q53 : Nat, w = sh_X5 cA h0 q10_0 u14_1_q26 u14_1_q34 u14_1_q42 q21_1 u25_2_q17 u25_2_q24 u25_2_q31 q35 q44 q53) := by
  refine InitC.of (by decide) rfl (Nat.le_of_ble_eq_true rfl) (fun X h0 hG hin hQ => ?_)
  have hG : GI X RX5 cX5_init 1 2 11 666 50 := hG
  show JI X 1 0 [(0, .ref h0)] [] [(h0, .inr (5, [.int 0, .null, .null, .null, .null, .null, .int 0, .int 0, .int 0, .int 0]))] 0 0
  refine JI.aload_n hG 0 0 dX5_init_0 rfl rfl ?_
  refine JI.objInit hG ml_X5_3 (Nat.le_of_ble_eq_true rfl) (Nat.le_of_ble_eq_true rfl) (Nat.le_of_ble_eq_true rfl) dX5_init_1 ?_
  refine JI.aload_n hG 0 0 dX5_init_4 rfl rfl ?_
  refine JI.iconst hG (0) dX5_init_5 rfl ?_
  refine JI.put hG ciX5 0 (Nat.le_of_ble_eq_true rfl) fl_X5_9 rfl rfl rfl (Nat.le_of_ble_eq_true rfl) (fs2 := [.int 0, .null, .null, .null, .null, .null, .int 0, .int 0, .int 0, .int 0]) rfl dX5_init_6 ?_
  refine JI.aload_n hG 0 0 dX5_init_9 rfl rfl ?_
  refine JI.new hG ciX1 cl_X5_15 inst_X1 ini_X1 (fs := [.int 0, .int 0, .int 0, .int 0, .null, .null, .null]) (fun j hj => by rcases (show j = 0 ∨ j = 1 ∨ j = 2 ∨ j = 3 ∨ j = 4 ∨ j = 5 ∨ j = 6 by omega) with rfl | rfl | rfl | rfl | rfl | rfl | rfl <;> rfl) (Nat.le_of_ble_eq_true rfl) (Nat.le_of_ble_eq_true rfl) dX5_init_10 (fun q10_0 => ?_)
  refine JI.dup hG dX5_init_13 ?_
  refine JI.callN hG ic_X1 ok_X1_init (by simp [nestW]) (Nat.le_of_ble_eq_true rfl) ⟨Nat.le_of_ble_eq_true rfl, Nat.le_of_ble_eq_true rfl⟩ ⟨Nat.le_of_ble_eq_true rfl, Nat.le_of_ble_eq_true rfl⟩ dX5_init_14 (fun w14_1 hw => ?_)
  obtain ⟨u14_1_q26, u14_1_q34, u14_1_q42, rfl⟩ := hw
  refine JI.eqw (ws' := (h0, .inr (5, [.int 0, .null, .null, .null, .null, .null, .int 0, .int 0, .int 0, .int 0])) :: ((sh_X1 (cAX X) q10_0 u14_1_q26 u14_1_q34 u14_1_q42) ++ ([]))) (by first | (simp only [zI, zZ, zQ, List.append_assoc, List.cons_append, List.nil_append, List.append_nil]; done) | rfl) ?_
  refine JI.putF hG hin ciX5 1 (Nat.le_of_ble_eq_true rfl) fl_X5_18 rfl rfl rfl rfl (Nat.le_of_ble_eq_true rfl) (fs2 := [.int 0, .ref q10_0, .null, .null, .null, .null, .int 0, .int 0, .int 0, .int 0]) rfl dX5_init_17 ?_
  refine JI.aload_n hG 0 0 dX5_init_20 rfl rfl ?_
  refine JI.new hG ciX2 cl_X5_22 inst_X2 ini_X2 (fs := [.int 0, .int 0, .null, .null, .null]) (fun j hj => by rcases (show j = 0 ∨ j = 1 ∨ j = 2 ∨ j = 3 ∨ j = 4 by omega) with rfl | rfl | rfl | rfl | rfl <;> rfl) (Nat.le_of_ble_eq_true rfl) (Nat.le_of_ble_eq_true rfl) dX5_init_21 (fun q21_1 => ?_)
  refine JI.dup hG dX5_init_24 ?_
  refine JI.callN hG ic_X2 ok_X2_init (by simp [nestW]) (Nat.le_of_ble_eq_true rfl) ⟨Nat.le_of_ble_eq_true rfl, Nat.le_of_ble_eq_true rfl⟩ ⟨Nat.le_of_ble_eq_true rfl, Nat.le_of_ble_eq_true rfl⟩ dX5_init_25 (fun w25_2 hw => ?_)
  obtain ⟨u25_2_q17, u25_2_q24, u25_2_q31, rfl⟩ := hw
  refine JI.eqw (ws' := (h0, .inr (5, [.int 0, .ref q10_0, .null, .null, .null, .null, .int 0, .int 0, .int 0, .int 0])) :: ((sh_X1 (cAX X) q10_0 u14_1_q26 u14_1_q34 u14_1_q42) ++ ((sh_X2 (cAX X) q21_1 u25_2_q17 u25_2_q24 u25_2_q31) ++ ([])))) (by first | (simp only [zI, zZ, zQ, List.append_assoc, List.cons_append, List.nil_append, List.append_nil]; done) | rfl) ?_
  refine JI.putF hG hin ciX5 2 (Nat.le_of_ble_eq_true rfl) fl_X5_25 rfl rfl rfl rfl (Nat.le_of_ble_eq_true rfl) (fs2 := [.int 0, .ref q10_0, .ref q21_1, .null, .null, .null, .int 0, .int 0, .int 0, .int 0]) rfl dX5_init_28 ?_
  refine JI.aload_n hG 0 0 dX5_init_31 rfl rfl ?_
  refine JI.sipush hG (200) dX5_init_32 rfl ?_
  refine JI.newI hG (by decide) (N := 200) rfl (by decide) (Nat.le_of_ble_eq_true rfl) (Nat.le_of_ble_eq_true rfl) dX5_init_35 (fun q35 => ?_)
  refine JI.eqw (ws' := (h0, .inr (5, [.int 0, .ref q10_0, .ref q21_1, .null, .null, .null, .int 0, .int 0, .int 0, .int 0])) :: ((sh_X1 (cAX X) q10_0 u14_1_q26 u14_1_q34 u14_1_q42) ++ ((sh_X2 (cAX X) q21_1 u25_2_q17 u25_2_q24 u25_2_q31) ++ (zI (cAX X) q35 200 :: ([]))))) (by first | (simp only [zI, zZ, zQ, List.append_assoc, List.cons_append, List.nil_append, List.append_nil]; done) | rfl) ?_
  refine JI.putF hG hin ciX5 3 (Nat.le_of_ble_eq_true rfl) fl_X5_29 rfl rfl rfl rfl (Nat.le_of_ble_eq_true rfl) (fs2 := [.int 0, .ref q10_0, .ref q21_1, .ref q35, .null, .null, .int 0, .int 0, .int 0, .int 0]) rfl dX5_init_37 ?_
  refine JI.aload_n hG 0 0 dX5_init_40 rfl rfl ?_
  refine JI.sipush hG (201) dX5_init_41 rfl ?_
  refine JI.newI hG (by decide) (N := 201) rfl (by decide) (Nat.le_of_ble_eq_true rfl) (Nat.le_of_ble_eq_true rfl) dX5_init_44 (fun q44 => ?_)
  refine JI.eqw (ws' := (h0, .inr (5, [.int 0, .ref q10_0, .ref q21_1, .ref q35, .null, .null, .int 0, .int 0, .int 0, .int 0])) :: ((sh_X1 (cAX X) q10_0 u14_1_q26 u14_1_q34 u14_1_q42) ++ ((sh_X2 (cAX X) q21_1 u25_2_q17 u25_2_q24 u25_2_q31) ++ (zI (cAX X) q35 200 :: (zI (cAX X) q44 201 :: ([])))))) (by first | (simp only [zI, zZ, zQ, List.append_assoc, List.cons_append, List.nil_append, List.append_nil]; done) | rfl) ?_
  refine JI.putF hG hin ciX5 4 (Nat.le_of_ble_eq_true rfl) fl_X5_33 rfl rfl rfl rfl (Nat.le_of_ble_eq_true rfl) (fs2 := [.int 0, .ref q10_0, .ref q21_1, .ref q35, .ref q44, .null, .int 0, .int 0, .int 0, .int 0]) rfl dX5_init_46 ?_
  refine JI.aload_n hG 0 0 dX5_init_49 rfl rfl ?_
  refine JI.sipush hG (201) dX5_init_50 rfl ?_
  refine JI.newI hG (by decide) (N := 201) rfl (by decide) (Nat.le_of_ble_eq_true rfl) (Nat.le_of_ble_eq_true rfl) dX5_init_53 (fun q53 => ?_)
  refine JI.eqw (ws' := (h0, .inr (5, [.int 0, .ref q10_0, .ref q21_1, .ref q35, .ref q44, .null, .int 0, .int 0, .int 0, .int 0])) :: ((sh_X1 (cAX X) q10_0 u14_1_q26 u14_1_q34 u14_1_q42) ++ ((sh_X2 (cAX X) q21_1 u25_2_q17 u25_2_q24 u25_2_q31) ++ (zI (cAX X) q35 200 :: (zI (cAX X) q44 201 :: (zI (cAX X) q53 201 :: ([]))))))) (by first | (simp only [zI, zZ, zQ, List.append_assoc, List.cons_append, List.nil_append, List.append_nil]; done) | rfl) ?_
  refine JI.putF hG hin ciX5 5 (Nat.le_of_ble_eq_true rfl) fl_X5_36 rfl rfl rfl rfl (Nat.le_of_ble_eq_true rfl) (fs2 := [.int 0, .ref q10_0, .ref q21_1, .ref q35, .ref q44, .ref q53, .int 0, .int 0, .int 0, .int 0]) rfl dX5_init_55 ?_
  refine JI.aload_n hG 0 0 dX5_init_58 rfl rfl ?_
  refine JI.iconst hG (0) dX5_init_59 rfl ?_
  refine JI.put hG ciX5 6 (Nat.le_of_ble_eq_true rfl) fl_X5_39 rfl rfl rfl (Nat.le_of_ble_eq_true rfl) (fs2 := [.int 0, .ref q10_0, .ref q21_1, .ref q35, .ref q44, .ref q53, .int 0, .int 0, .int 0, .int 0]) rfl dX5_init_60 ?_
  refine JI.aload_n hG 0 0 dX5_init_63 rfl rfl ?_
  refine JI.iconst hG (0) dX5_init_64 rfl ?_
  refine JI.put hG ciX5 7 (Nat.le_of_ble_eq_true rfl) fl_X5_42 rfl rfl rfl (Nat.le_of_ble_eq_true rfl) (fs2 := [.int 0, .ref q10_0, .ref q21_1, .ref q35, .ref q44, .ref q53, .int 0, .int 0, .int 0, .int 0]) rfl dX5_init_65 ?_
  refine JI.aload_n hG 0 0 dX5_init_68 rfl rfl ?_
  refine JI.iconst hG (-1) dX5_init_69 rfl ?_
  refine JI.put hG ciX5 8 (Nat.le_of_ble_eq_true rfl) fl_X5_45 rfl rfl rfl (Nat.le_of_ble_eq_true rfl) (fs2 := [.int 0, .ref q10_0, .ref q21_1, .ref q35, .ref q44, .ref q53, .int 0, .int 0, .int (-1), .int 0]) rfl dX5_init_70 ?_
  refine JI.aload_n hG 0 0 dX5_init_73 rfl rfl ?_
  refine JI.iconst hG (0) dX5_init_74 rfl ?_
  refine JI.put hG ciX5 9 (Nat.le_of_ble_eq_true rfl) fl_X5_48 rfl rfl rfl (Nat.le_of_ble_eq_true rfl) (fs2 := [.int 0, .ref q10_0, .ref q21_1, .ref q35, .ref q44, .ref q53, .int 0, .int 0, .int (-1), .int 0]) rfl dX5_init_75 ?_
  refine JI.vret hG hQ dX5_init_78 ?_
  exact ⟨q10_0, u14_1_q26, u14_1_q34, u14_1_q42, q21_1, u25_2_q17, u25_2_q24, u25_2_q31, q35, q44, q53, rfl⟩
theorem fq2 (a0 a1 : Nat) : va_up (va_up (noQ) 0 (some a0)) 1 (some a1) = fun j => ([a0, a1] : List Nat)[j]? := by
  funext j
  match j with
  | 0 => rfl
  | 1 => rfl
  | m + 2 => simp [va_up, noQ]
theorem fq10 (a0 a1 a2 a3 a4 a5 a6 a7 a8 a9 : Nat) : va_up (va_up (va_up (va_up (va_up (va_up (va_up (va_up (va_up (va_up (noQ) 0 (some a0)) 1 (some a1)) 2 (some a2)) 3 (some a3)) 4 (some a4)) 5 (some a5)) 6 (some a6)) 7 (some a7)) 8 (some a8)) 9 (some a9) = fun j => ([a0, a1, a2, a3, a4, a5, a6, a7, a8, a9] : List Nat)[j]? := by
  funext j
  match j with
  | 0 => rfl
  | 1 => rfl
  | 2 => rfl
  | 3 => rfl
  | 4 => rfl
  | 5 => rfl
  | 6 => rfl
  | 7 => rfl
  | 8 => rfl
  | 9 => rfl
  | m + 10 => simp [va_up, noQ]
theorem cons2 {α : Type} {a b : α} {l m : List α} (h : a = b) (g : l = m) : a :: l = b :: m := by rw [h, g]
theorem lk_map2 {f : Nat → Option Nat} (l : List Nat) (ad : Nat → Nat) (l' : List Nat) (hf : f = fun j => l'[j]?) (h : l.map ad = l') : f = fun j : Nat => (l[j]?).map ad := by subst h; subst hf; funext j; simp
theorem cE_q (ad : Nat → Nat) (cA : Nat → ClassId) (μ : Mem) (i n : Nat) (refs : List Nat) (f : Nat → Option Nat) (h : f = fun j => (refs[j]?).map ad) : (Sum.inl (cA 2, n, .inr (.inr (.inr (.inr f)))) : va_E) = cE ad cA μ i (.inr (2, n, refs)) := by subst h; rfl
def wOfG (ad : Nat → Nat) (cA : Nat → ClassId) (μ : Mem) : Nat → List Sh → va_W
  | _, [] => []
  | k, sh :: T => (ad k, cE ad cA μ k sh) :: wOfG ad cA μ (k + 1) T
theorem wOfG_at (ad : Nat → Nat) (cA : Nat → ClassId) (μ : Mem) : ∀ (T : List Sh) (k i : Nat), (wOfG ad cA μ k T)[i]? = (T[i]?).map (fun sh => (ad (k + i), cE ad cA μ (k + i) sh))
  | [], k, i => by simp [wOfG]
  | sh :: T, k, 0 => by simp [wOfG]
  | sh :: T, k, i + 1 => by
    rw [wOfG, List.getElem?_cons_succ, List.getElem?_cons_succ, wOfG_at ad cA μ T (k + 1) i, show k + 1 + i = k + (i + 1) by omega]
theorem wOf_G (T : List Sh) (ad : Nat → Nat) (cA : Nat → ClassId) (μ : Mem) : wOf T ad cA μ = wOfG ad cA μ 0 T := by
  apply List.ext_getElem?
  intro i
  rw [wOfG_at]
  simp [wOf, List.getElem?_mapIdx]
def muX0 : Mem := fun c j => match c with
  | 1 => if j = 8 then -1 else 0
  | 2 => if j = 3 then 2 else 0
  | 13 => if j = 3 then 2 else 0
  | _ => 0
def muM0 : Mem := fun c j => match c with
  | 0 => if j = 17 then 2 else 0
  | _ => 0

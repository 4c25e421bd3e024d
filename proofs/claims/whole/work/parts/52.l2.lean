theorem inTX : TX[0]? = some (.inl (6, [3, 15, 19, 23, 65, 66, 67, 73, 77, 78, 1])) := rfl
theorem inj_of {A : Nat → Prop} {T : List Sh} {ad : Nat → Nat} {cA : Nat → ClassId} {μ : Mem} (h : va_D A (wOf T ad cA μ)) : ∀ i j, i < T.length → j < T.length → ad i = ad j → i = j := fun i j hi hj e => h.1 i j _ _ (wOf_at (List.getElem?_eq_getElem hi)) (wOf_at (List.getElem?_eq_getElem hj)) e
set_option maxRecDepth 100000 in
set_option maxHeartbeats 4000000 in
theorem lc_0 {X : CxI} (hG : GI X RL cL_law 4 9 600000 7302250 342) {b0 Ln : Nat} {xs : Nat → Int32} (hS : Scr X b0 Ln xs) {nc ns : Nat} (hcs : nc ≤ 600000 ∧ ns ≤ 7302250) {adX adM : Nat → Nat} (hadX : ∀ i j, i < TX.length → j < TX.length → adX i = adX j → i = j) (hadM : ∀ i j, i < TM.length → j < TM.length → adM i = adM j → i = j) (k : Int) (hk : 0 ≤ k ∧ k + 5 ≤ Ln ∧ Ln ≤ 320) {a b : Mem} (h : Sim a b) (oa : okM a) (ob : okM b) (kk : ∀ a1 b1, Sim a1 b1 → okM a1 → okM b1 → JI X 4 1093 [(3, .int (Int32.ofInt k)), (2, .ref (adM 0)), (1, .ref (adX 0)), (0, .ref b0)] [] (wOf TM adM (cAX X) b1 ++ wOf TX adX (cAX X) a1) nc ns) : JI X 4 176 [(3, .int (Int32.ofInt k)), (2, .ref (adM 0)), (1, .ref (adX 0)), (0, .ref b0)] [] (wOf TM adM (cAX X) b ++ wOf TX adX (cAX X) a) nc ns := by
  obtain ⟨Px, hx, hpost⟩ := st_type (zz xs (k + 1)) a b h
  refine JI.aload_n hG 2 1 dL_law_176 rfl rfl ?_
  refine JI.aload_n hG 3 0 dL_law_177 rfl rfl ?_
  refine JI.iload_n hG 0 3 dL_law_178 rfl rfl ?_
  refine JI.iconst hG (Int32.ofInt 1) dL_law_179 rfl ?_
  refine JI.iaddI hG dL_law_180 ?_
  refine JI.sldI hG hS (by omega) (by omega) (by omega) dL_law_181 ?_
  refine JI.callW hG (as := [aI (zz xs (k + 1))]) (st := []) hx ok_X6_type ml_L_13 rfl rfl rfl hadX (by intro v hv; simp only [List.mem_cons, List.not_mem_nil, or_false] at hv; rcases hv with rfl <;> exact okTo _) oa rfl (Nat.le_of_ble_eq_true rfl) ⟨Nat.le_of_ble_eq_true rfl, Nat.le_of_ble_eq_true rfl⟩ hcs dL_law_182 rfl (fun r a1 hp oa1 => ?_)
  obtain ⟨Pm, hm, hpost2⟩ := hpost r a1 hp
  refine JI.aload_n hG 1 2 dL_law_185 rfl rfl ?_
  refine JI.aload_n hG 3 0 dL_law_186 rfl rfl ?_
  refine JI.iload_n hG 0 3 dL_law_187 rfl rfl ?_
  refine JI.iconst hG (Int32.ofInt 1) dL_law_188 rfl ?_
  refine JI.iaddI hG dL_law_189 ?_
  refine JI.sldI hG hS (by omega) (by omega) (by omega) dL_law_190 ?_
  refine JI.comm ?_
  refine JI.callW hG (as := [aI (zz xs (k + 1))]) (st := mcV adX r ++ []) hm ok_X7_type ml_L_17 rfl rfl rfl hadM (by intro v hv; simp only [List.mem_cons, List.not_mem_nil, or_false] at hv; rcases hv with rfl <;> exact okTo _) ob rfl (mcV_len adX r [] (Nat.zero_le 3)) ⟨Nat.le_of_ble_eq_true rfl, Nat.le_of_ble_eq_true rfl⟩ hcs dL_law_191 rfl (fun r2 b1 hq ob1 => ?_)
  obtain ⟨v, rfl, rfl, hs⟩ := hpost2 r2 b1 hq
  refine JI.comm ?_
  show JI X 4 194 [(3, .int (Int32.ofInt k)), (2, .ref (adM 0)), (1, .ref (adX 0)), (0, .ref b0)] [.int (Int32.ofInt v), .int (Int32.ofInt v)] (wOf TM adM (cAX X) b1 ++ wOf TX adX (cAX X) a1) nc ns
  refine JI.icmp_eqT hG 1093 dL_law_194 rfl ?_
  exact kk a1 b1 hs oa1 ob1
set_option maxRecDepth 100000 in
set_option maxHeartbeats 4000000 in
theorem lc_1 {X : CxI} (hG : GI X RL cL_law 4 9 600000 7302250 342) {b0 Ln : Nat} {xs : Nat → Int32} (hS : Scr X b0 Ln xs) {nc ns : Nat} (hcs : nc ≤ 600000 ∧ ns ≤ 7302250) {adX adM : Nat → Nat} (hadX : ∀ i j, i < TX.length → j < TX.length → adX i = adX j → i = j) (hadM : ∀ i j, i < TM.length → j < TM.length → adM i = adM j → i = j) (k : Int) (hk : 0 ≤ k ∧ k + 5 ≤ Ln ∧ Ln ≤ 320) {a b : Mem} (h : Sim a b) (oa : okM a) (ob : okM b) (kk : ∀ a1 b1, Sim a1 b1 → okM a1 → okM b1 → JI X 4 1093 [(3, .int (Int32.ofInt k)), (2, .ref (adM 0)), (1, .ref (adX 0)), (0, .ref b0)] [] (wOf TM adM (cAX X) b1 ++ wOf TX adX (cAX X) a1) nc ns) : JI X 4 199 [(3, .int (Int32.ofInt k)), (2, .ref (adM 0)), (1, .ref (adX 0)), (0, .ref b0)] [] (wOf TM adM (cAX X) b ++ wOf TX adX (cAX X) a) nc ns := by
  obtain ⟨Px, hx, hpost⟩ := st_clear  a b h
  refine JI.aload_n hG 2 1 dL_law_199 rfl rfl ?_
  refine JI.callW hG (as := []) (st := []) hx ok_X6_clear ml_L_18 rfl rfl rfl hadX (fun v hv => absurd hv List.not_mem_nil) oa rfl (Nat.le_of_ble_eq_true rfl) ⟨Nat.le_of_ble_eq_true rfl, Nat.le_of_ble_eq_true rfl⟩ hcs dL_law_200 rfl (fun r a1 hp oa1 => ?_)
  obtain ⟨Pm, hm, hpost2⟩ := hpost r a1 hp
  refine JI.aload_n hG 1 2 dL_law_203 rfl rfl ?_
  refine JI.comm ?_
  refine JI.callW hG (as := []) (st := mcV adX r ++ []) hm ok_X7_clear ml_L_22 rfl rfl rfl hadM (fun v hv => absurd hv List.not_mem_nil) ob rfl (mcV_len adX r [] (Nat.zero_le 3)) ⟨Nat.le_of_ble_eq_true rfl, Nat.le_of_ble_eq_true rfl⟩ hcs dL_law_204 rfl (fun r2 b1 hq ob1 => ?_)
  obtain ⟨v, rfl, rfl, hs⟩ := hpost2 r2 b1 hq
  refine JI.comm ?_
  show JI X 4 207 [(3, .int (Int32.ofInt k)), (2, .ref (adM 0)), (1, .ref (adX 0)), (0, .ref b0)] [.int (Int32.ofInt v), .int (Int32.ofInt v)] (wOf TM adM (cAX X) b1 ++ wOf TX adX (cAX X) a1) nc ns
  refine JI.icmp_eqT hG 1093 dL_law_207 rfl ?_
  exact kk a1 b1 hs oa1 ob1
set_option maxRecDepth 100000 in
set_option maxHeartbeats 4000000 in
theorem lc_2 {X : CxI} (hG : GI X RL cL_law 4 9 600000 7302250 342) {b0 Ln : Nat} {xs : Nat → Int32} (hS : Scr X b0 Ln xs) {nc ns : Nat} (hcs : nc ≤ 600000 ∧ ns ≤ 7302250) {adX adM : Nat → Nat} (hadX : ∀ i j, i < TX.length → j < TX.length → adX i = adX j → i = j) (hadM : ∀ i j, i < TM.length → j < TM.length → adM i = adM j → i = j) (k : Int) (hk : 0 ≤ k ∧ k + 5 ≤ Ln ∧ Ln ≤ 320) {a b : Mem} (h : Sim a b) (oa : okM a) (ob : okM b) (kk : ∀ a1 b1, Sim a1 b1 → okM a1 → okM b1 → JI X 4 1093 [(3, .int (Int32.ofInt k)), (2, .ref (adM 0)), (1, .ref (adX 0)), (0, .ref b0)] [] (wOf TM adM (cAX X) b1 ++ wOf TX adX (cAX X) a1) nc ns) : JI X 4 212 [(3, .int (Int32.ofInt k)), (2, .ref (adM 0)), (1, .ref (adX 0)), (0, .ref b0)] [] (wOf TM adM (cAX X) b ++ wOf TX adX (cAX X) a) nc ns := by
  obtain ⟨Px, hx, hpost⟩ := st_land  a b h
  refine JI.aload_n hG 2 1 dL_law_212 rfl rfl ?_
  refine JI.callW hG (as := []) (st := []) hx ok_X6_land ml_L_23 rfl rfl rfl hadX (fun v hv => absurd hv List.not_mem_nil) oa rfl (Nat.le_of_ble_eq_true rfl) ⟨Nat.le_of_ble_eq_true rfl, Nat.le_of_ble_eq_true rfl⟩ hcs dL_law_213 rfl (fun r a1 hp oa1 => ?_)
  obtain ⟨Pm, hm, hpost2⟩ := hpost r a1 hp
  refine JI.aload_n hG 1 2 dL_law_216 rfl rfl ?_
  refine JI.comm ?_
  refine JI.callW hG (as := []) (st := mcV adX r ++ []) hm ok_X7_land ml_L_26 rfl rfl rfl hadM (fun v hv => absurd hv List.not_mem_nil) ob rfl (mcV_len adX r [] (Nat.zero_le 3)) ⟨Nat.le_of_ble_eq_true rfl, Nat.le_of_ble_eq_true rfl⟩ hcs dL_law_217 rfl (fun r2 b1 hq ob1 => ?_)
  obtain ⟨v, rfl, rfl, hs⟩ := hpost2 r2 b1 hq
  refine JI.comm ?_
  show JI X 4 220 [(3, .int (Int32.ofInt k)), (2, .ref (adM 0)), (1, .ref (adX 0)), (0, .ref b0)] [.int (Int32.ofInt v), .int (Int32.ofInt v)] (wOf TM adM (cAX X) b1 ++ wOf TX adX (cAX X) a1) nc ns
  refine JI.icmp_eqT hG 1093 dL_law_220 rfl ?_
  exact kk a1 b1 hs oa1 ob1
set_option maxRecDepth 100000 in
set_option maxHeartbeats 4000000 in
theorem lc_3 {X : CxI} (hG : GI X RL cL_law 4 9 600000 7302250 342) {b0 Ln : Nat} {xs : Nat → Int32} (hS : Scr X b0 Ln xs) {nc ns : Nat} (hcs : nc ≤ 600000 ∧ ns ≤ 7302250) {adX adM : Nat → Nat} (hadX : ∀ i j, i < TX.length → j < TX.length → adX i = adX j → i = j) (hadM : ∀ i j, i < TM.length → j < TM.length → adM i = adM j → i = j) (k : Int) (hk : 0 ≤ k ∧ k + 5 ≤ Ln ∧ Ln ≤ 320) {a b : Mem} (h : Sim a b) (oa : okM a) (ob : okM b) (kk : ∀ a1 b1, Sim a1 b1 → okM a1 → okM b1 → JI X 4 1093 [(3, .int (Int32.ofInt k)), (2, .ref (adM 0)), (1, .ref (adX 0)), (0, .ref b0)] [] (wOf TM adM (cAX X) b1 ++ wOf TX adX (cAX X) a1) nc ns) : JI X 4 225 [(3, .int (Int32.ofInt k)), (2, .ref (adM 0)), (1, .ref (adX 0)), (0, .ref b0)] [] (wOf TM adM (cAX X) b ++ wOf TX adX (cAX X) a) nc ns := by
  obtain ⟨Px, hx, hpost⟩ := st_scale (zz xs (k + 1)) (zz xs (k + 2)) a b h
  refine JI.aload_n hG 2 1 dL_law_225 rfl rfl ?_
  refine JI.aload_n hG 3 0 dL_law_226 rfl rfl ?_
  refine JI.iload_n hG 0 3 dL_law_227 rfl rfl ?_
  refine JI.iconst hG (Int32.ofInt 1) dL_law_228 rfl ?_
  refine JI.iaddI hG dL_law_229 ?_
  refine JI.sldI hG hS (by omega) (by omega) (by omega) dL_law_230 ?_
  refine JI.aload_n hG 3 0 dL_law_231 rfl rfl ?_
  refine JI.iload_n hG 0 3 dL_law_232 rfl rfl ?_
  refine JI.iconst hG (Int32.ofInt 2) dL_law_233 rfl ?_
  refine JI.iaddI hG dL_law_234 ?_
  refine JI.sldI hG hS (by omega) (by omega) (by omega) dL_law_235 ?_
  refine JI.callW hG (as := [aI (zz xs (k + 1)), aI (zz xs (k + 2))]) (st := []) hx ok_X6_scale ml_L_27 rfl rfl rfl hadX (by intro v hv; simp only [List.mem_cons, List.not_mem_nil, or_false] at hv; rcases hv with rfl | rfl <;> exact okTo _) oa rfl (Nat.le_of_ble_eq_true rfl) ⟨Nat.le_of_ble_eq_true rfl, Nat.le_of_ble_eq_true rfl⟩ hcs dL_law_236 rfl (fun r a1 hp oa1 => ?_)
  obtain ⟨Pm, hm, hpost2⟩ := hpost r a1 hp
  refine JI.aload_n hG 1 2 dL_law_239 rfl rfl ?_
  refine JI.aload_n hG 3 0 dL_law_240 rfl rfl ?_
  refine JI.iload_n hG 0 3 dL_law_241 rfl rfl ?_
  refine JI.iconst hG (Int32.ofInt 1) dL_law_242 rfl ?_
  refine JI.iaddI hG dL_law_243 ?_
  refine JI.sldI hG hS (by omega) (by omega) (by omega) dL_law_244 ?_
  refine JI.aload_n hG 3 0 dL_law_245 rfl rfl ?_
  refine JI.iload_n hG 0 3 dL_law_246 rfl rfl ?_
  refine JI.iconst hG (Int32.ofInt 2) dL_law_247 rfl ?_
  refine JI.iaddI hG dL_law_248 ?_
  refine JI.sldI hG hS (by omega) (by omega) (by omega) dL_law_249 ?_
  refine JI.comm ?_
  refine JI.callW hG (as := [aI (zz xs (k + 1)), aI (zz xs (k + 2))]) (st := mcV adX r ++ []) hm ok_X7_scale ml_L_31 rfl rfl rfl hadM (by intro v hv; simp only [List.mem_cons, List.not_mem_nil, or_false] at hv; rcases hv with rfl | rfl <;> exact okTo _) ob rfl (mcV_len adX r [] (Nat.zero_le 3)) ⟨Nat.le_of_ble_eq_true rfl, Nat.le_of_ble_eq_true rfl⟩ hcs dL_law_250 rfl (fun r2 b1 hq ob1 => ?_)
  obtain ⟨v, rfl, rfl, hs⟩ := hpost2 r2 b1 hq
  refine JI.comm ?_
  show JI X 4 253 [(3, .int (Int32.ofInt k)), (2, .ref (adM 0)), (1, .ref (adX 0)), (0, .ref b0)] [.int (Int32.ofInt v), .int (Int32.ofInt v)] (wOf TM adM (cAX X) b1 ++ wOf TX adX (cAX X) a1) nc ns
  refine JI.icmp_eqT hG 1093 dL_law_253 rfl ?_
  exact kk a1 b1 hs oa1 ob1
set_option maxRecDepth 100000 in
set_option maxHeartbeats 4000000 in
theorem lc_4 {X : CxI} (hG : GI X RL cL_law 4 9 600000 7302250 342) {b0 Ln : Nat} {xs : Nat → Int32} (hS : Scr X b0 Ln xs) {nc ns : Nat} (hcs : nc ≤ 600000 ∧ ns ≤ 7302250) {adX adM : Nat → Nat} (hadX : ∀ i j, i < TX.length → j < TX.length → adX i = adX j → i = j) (hadM : ∀ i j, i < TM.length → j < TM.length → adM i = adM j → i = j) (k : Int) (hk : 0 ≤ k ∧ k + 5 ≤ Ln ∧ Ln ≤ 320) {a b : Mem} (h : Sim a b) (oa : okM a) (ob : okM b) (kk : ∀ a1 b1, Sim a1 b1 → okM a1 → okM b1 → JI X 4 1093 [(3, .int (Int32.ofInt k)), (2, .ref (adM 0)), (1, .ref (adX 0)), (0, .ref b0)] [] (wOf TM adM (cAX X) b1 ++ wOf TX adX (cAX X) a1) nc ns) : JI X 4 258 [(3, .int (Int32.ofInt k)), (2, .ref (adM 0)), (1, .ref (adX 0)), (0, .ref b0)] [] (wOf TM adM (cAX X) b ++ wOf TX adX (cAX X) a) nc ns := by
  obtain ⟨Px, hx, hpost⟩ := st_life (zz xs (k + 1)) (zz xs (k + 2)) (zz xs (k + 3)) a b h
  refine JI.aload_n hG 2 1 dL_law_258 rfl rfl ?_
  refine JI.aload_n hG 3 0 dL_law_259 rfl rfl ?_
  refine JI.iload_n hG 0 3 dL_law_260 rfl rfl ?_
  refine JI.iconst hG (Int32.ofInt 1) dL_law_261 rfl ?_
  refine JI.iaddI hG dL_law_262 ?_
  refine JI.sldI hG hS (by omega) (by omega) (by omega) dL_law_263 ?_
  refine JI.aload_n hG 3 0 dL_law_264 rfl rfl ?_
  refine JI.iload_n hG 0 3 dL_law_265 rfl rfl ?_
  refine JI.iconst hG (Int32.ofInt 2) dL_law_266 rfl ?_
  refine JI.iaddI hG dL_law_267 ?_
  refine JI.sldI hG hS (by omega) (by omega) (by omega) dL_law_268 ?_
  refine JI.aload_n hG 3 0 dL_law_269 rfl rfl ?_
  refine JI.iload_n hG 0 3 dL_law_270 rfl rfl ?_
  refine JI.iconst hG (Int32.ofInt 3) dL_law_271 rfl ?_
  refine JI.iaddI hG dL_law_272 ?_
  refine JI.sldI hG hS (by omega) (by omega) (by omega) dL_law_273 ?_
  refine JI.callW hG (as := [aI (zz xs (k + 1)), aI (zz xs (k + 2)), aI (zz xs (k + 3))]) (st := []) hx ok_X6_life ml_L_32 rfl rfl rfl hadX (by intro v hv; simp only [List.mem_cons, List.not_mem_nil, or_false] at hv; rcases hv with rfl | rfl | rfl <;> exact okTo _) oa rfl (Nat.le_of_ble_eq_true rfl) ⟨Nat.le_of_ble_eq_true rfl, Nat.le_of_ble_eq_true rfl⟩ hcs dL_law_274 rfl (fun r a1 hp oa1 => ?_)
  obtain ⟨Pm, hm, hpost2⟩ := hpost r a1 hp
  refine JI.aload_n hG 1 2 dL_law_277 rfl rfl ?_
  refine JI.aload_n hG 3 0 dL_law_278 rfl rfl ?_
  refine JI.iload_n hG 0 3 dL_law_279 rfl rfl ?_
  refine JI.iconst hG (Int32.ofInt 1) dL_law_280 rfl ?_
  refine JI.iaddI hG dL_law_281 ?_
  refine JI.sldI hG hS (by omega) (by omega) (by omega) dL_law_282 ?_
  refine JI.aload_n hG 3 0 dL_law_283 rfl rfl ?_
  refine JI.iload_n hG 0 3 dL_law_284 rfl rfl ?_
  refine JI.iconst hG (Int32.ofInt 2) dL_law_285 rfl ?_
  refine JI.iaddI hG dL_law_286 ?_
  refine JI.sldI hG hS (by omega) (by omega) (by omega) dL_law_287 ?_
  refine JI.aload_n hG 3 0 dL_law_288 rfl rfl ?_
  refine JI.iload_n hG 0 3 dL_law_289 rfl rfl ?_
  refine JI.iconst hG (Int32.ofInt 3) dL_law_290 rfl ?_
  refine JI.iaddI hG dL_law_291 ?_
  refine JI.sldI hG hS (by omega) (by omega) (by omega) dL_law_292 ?_
  refine JI.comm ?_
  refine JI.callW hG (as := [aI (zz xs (k + 1)), aI (zz xs (k + 2)), aI (zz xs (k + 3))]) (st := mcV adX r ++ []) hm ok_X7_life ml_L_36 rfl rfl rfl hadM (by intro v hv; simp only [List.mem_cons, List.not_mem_nil, or_false] at hv; rcases hv with rfl | rfl | rfl <;> exact okTo _) ob rfl (mcV_len adX r [] (Nat.zero_le 3)) ⟨Nat.le_of_ble_eq_true rfl, Nat.le_of_ble_eq_true rfl⟩ hcs dL_law_293 rfl (fun r2 b1 hq ob1 => ?_)
  obtain ⟨v, rfl, rfl, hs⟩ := hpost2 r2 b1 hq
  refine JI.comm ?_
  show JI X 4 296 [(3, .int (Int32.ofInt k)), (2, .ref (adM 0)), (1, .ref (adX 0)), (0, .ref b0)] [.int (Int32.ofInt v), .int (Int32.ofInt v)] (wOf TM adM (cAX X) b1 ++ wOf TX adX (cAX X) a1) nc ns
  refine JI.icmp_eqT hG 1093 dL_law_296 rfl ?_
  exact kk a1 b1 hs oa1 ob1
set_option maxRecDepth 100000 in
set_option maxHeartbeats 4000000 in
theorem lc_5 {X : CxI} (hG : GI X RL cL_law 4 9 600000 7302250 342) {b0 Ln : Nat} {xs : Nat → Int32} (hS : Scr X b0 Ln xs) {nc ns : Nat} (hcs : nc ≤ 600000 ∧ ns ≤ 7302250) {adX adM : Nat → Nat} (hadX : ∀ i j, i < TX.length → j < TX.length → adX i = adX j → i = j) (hadM : ∀ i j, i < TM.length → j < TM.length → adM i = adM j → i = j) (k : Int) (hk : 0 ≤ k ∧ k + 5 ≤ Ln ∧ Ln ≤ 320) {a b : Mem} (h : Sim a b) (oa : okM a) (ob : okM b) (kk : ∀ a1 b1, Sim a1 b1 → okM a1 → okM b1 → JI X 4 1093 [(3, .int (Int32.ofInt k)), (2, .ref (adM 0)), (1, .ref (adX 0)), (0, .ref b0)] [] (wOf TM adM (cAX X) b1 ++ wOf TX adX (cAX X) a1) nc ns) : JI X 4 301 [(3, .int (Int32.ofInt k)), (2, .ref (adM 0)), (1, .ref (adX 0)), (0, .ref b0)] [] (wOf TM adM (cAX X) b ++ wOf TX adX (cAX X) a) nc ns := by
  obtain ⟨Px, hx, hpost⟩ := st_end (zz xs (k + 1)) (zz xs (k + 2)) a b h
  refine JI.aload_n hG 2 1 dL_law_301 rfl rfl ?_
  refine JI.aload_n hG 3 0 dL_law_302 rfl rfl ?_
  refine JI.iload_n hG 0 3 dL_law_303 rfl rfl ?_
  refine JI.iconst hG (Int32.ofInt 1) dL_law_304 rfl ?_
  refine JI.iaddI hG dL_law_305 ?_
  refine JI.sldI hG hS (by omega) (by omega) (by omega) dL_law_306 ?_
  refine JI.aload_n hG 3 0 dL_law_307 rfl rfl ?_
  refine JI.iload_n hG 0 3 dL_law_308 rfl rfl ?_
  refine JI.iconst hG (Int32.ofInt 2) dL_law_309 rfl ?_
  refine JI.iaddI hG dL_law_310 ?_
  refine JI.sldI hG hS (by omega) (by omega) (by omega) dL_law_311 ?_
  refine JI.callW hG (as := [aI (zz xs (k + 1)), aI (zz xs (k + 2))]) (st := []) hx ok_X6_end ml_L_37 rfl rfl rfl hadX (by intro v hv; simp only [List.mem_cons, List.not_mem_nil, or_false] at hv; rcases hv with rfl | rfl <;> exact okTo _) oa rfl (Nat.le_of_ble_eq_true rfl) ⟨Nat.le_of_ble_eq_true rfl, Nat.le_of_ble_eq_true rfl⟩ hcs dL_law_312 rfl (fun r a1 hp oa1 => ?_)
  obtain ⟨Pm, hm, hpost2⟩ := hpost r a1 hp
  refine JI.aload_n hG 1 2 dL_law_315 rfl rfl ?_
  refine JI.aload_n hG 3 0 dL_law_316 rfl rfl ?_
  refine JI.iload_n hG 0 3 dL_law_317 rfl rfl ?_
  refine JI.iconst hG (Int32.ofInt 1) dL_law_318 rfl ?_
  refine JI.iaddI hG dL_law_319 ?_
  refine JI.sldI hG hS (by omega) (by omega) (by omega) dL_law_320 ?_
  refine JI.aload_n hG 3 0 dL_law_321 rfl rfl ?_
  refine JI.iload_n hG 0 3 dL_law_322 rfl rfl ?_
  refine JI.iconst hG (Int32.ofInt 2) dL_law_323 rfl ?_
  refine JI.iaddI hG dL_law_324 ?_
  refine JI.sldI hG hS (by omega) (by omega) (by omega) dL_law_325 ?_
  refine JI.comm ?_
  refine JI.callW hG (as := [aI (zz xs (k + 1)), aI (zz xs (k + 2))]) (st := mcV adX r ++ []) hm ok_X7_end ml_L_40 rfl rfl rfl hadM (by intro v hv; simp only [List.mem_cons, List.not_mem_nil, or_false] at hv; rcases hv with rfl | rfl <;> exact okTo _) ob rfl (mcV_len adX r [] (Nat.zero_le 3)) ⟨Nat.le_of_ble_eq_true rfl, Nat.le_of_ble_eq_true rfl⟩ hcs dL_law_326 rfl (fun r2 b1 hq ob1 => ?_)
  obtain ⟨v, rfl, rfl, hs⟩ := hpost2 r2 b1 hq
  refine JI.comm ?_
  show JI X 4 329 [(3, .int (Int32.ofInt k)), (2, .ref (adM 0)), (1, .ref (adX 0)), (0, .ref b0)] [.int (Int32.ofInt v), .int (Int32.ofInt v)] (wOf TM adM (cAX X) b1 ++ wOf TX adX (cAX X) a1) nc ns
  refine JI.icmp_eqT hG 1093 dL_law_329 rfl ?_
  exact kk a1 b1 hs oa1 ob1
set_option maxRecDepth 100000 in
set_option maxHeartbeats 4000000 in
theorem lc_6 {X : CxI} (hG : GI X RL cL_law 4 9 600000 7302250 342) {b0 Ln : Nat} {xs : Nat → Int32} (hS : Scr X b0 Ln xs) {nc ns : Nat} (hcs : nc ≤ 600000 ∧ ns ≤ 7302250) {adX adM : Nat → Nat} (hadX : ∀ i j, i < TX.length → j < TX.length → adX i = adX j → i = j) (hadM : ∀ i j, i < TM.length → j < TM.length → adM i = adM j → i = j) (k : Int) (hk : 0 ≤ k ∧ k + 5 ≤ Ln ∧ Ln ≤ 320) {a b : Mem} (h : Sim a b) (oa : okM a) (ob : okM b) (kk : ∀ a1 b1, Sim a1 b1 → okM a1 → okM b1 → JI X 4 1093 [(3, .int (Int32.ofInt k)), (2, .ref (adM 0)), (1, .ref (adX 0)), (0, .ref b0)] [] (wOf TM adM (cAX X) b1 ++ wOf TX adX (cAX X) a1) nc ns) : JI X 4 334 [(3, .int (Int32.ofInt k)), (2, .ref (adM 0)), (1, .ref (adX 0)), (0, .ref b0)] [] (wOf TM adM (cAX X) b ++ wOf TX adX (cAX X) a) nc ns := by
  obtain ⟨Px, hx, hpost⟩ := st_place (zz xs (k + 1)) a b h
  refine JI.aload_n hG 2 1 dL_law_334 rfl rfl ?_
  refine JI.aload_n hG 3 0 dL_law_335 rfl rfl ?_
  refine JI.iload_n hG 0 3 dL_law_336 rfl rfl ?_
  refine JI.iconst hG (Int32.ofInt 1) dL_law_337 rfl ?_
  refine JI.iaddI hG dL_law_338 ?_
  refine JI.sldI hG hS (by omega) (by omega) (by omega) dL_law_339 ?_
  refine JI.callW hG (as := [aI (zz xs (k + 1))]) (st := []) hx ok_X6_place ml_L_41 rfl rfl rfl hadX (by intro v hv; simp only [List.mem_cons, List.not_mem_nil, or_false] at hv; rcases hv with rfl <;> exact okTo _) oa rfl (Nat.le_of_ble_eq_true rfl) ⟨Nat.le_of_ble_eq_true rfl, Nat.le_of_ble_eq_true rfl⟩ hcs dL_law_340 rfl (fun r a1 hp oa1 => ?_)
  obtain ⟨Pm, hm, hpost2⟩ := hpost r a1 hp
  refine JI.aload_n hG 1 2 dL_law_343 rfl rfl ?_
  refine JI.aload_n hG 3 0 dL_law_344 rfl rfl ?_
  refine JI.iload_n hG 0 3 dL_law_345 rfl rfl ?_
  refine JI.iconst hG (Int32.ofInt 1) dL_law_346 rfl ?_
  refine JI.iaddI hG dL_law_347 ?_
  refine JI.sldI hG hS (by omega) (by omega) (by omega) dL_law_348 ?_
  refine JI.comm ?_
  refine JI.callW hG (as := [aI (zz xs (k + 1))]) (st := mcV adX r ++ []) hm ok_X7_place ml_L_44 rfl rfl rfl hadM (by intro v hv; simp only [List.mem_cons, List.not_mem_nil, or_false] at hv; rcases hv with rfl <;> exact okTo _) ob rfl (mcV_len adX r [] (Nat.zero_le 3)) ⟨Nat.le_of_ble_eq_true rfl, Nat.le_of_ble_eq_true rfl⟩ hcs dL_law_349 rfl (fun r2 b1 hq ob1 => ?_)
  obtain ⟨v, rfl, rfl, hs⟩ := hpost2 r2 b1 hq
  refine JI.comm ?_
  show JI X 4 352 [(3, .int (Int32.ofInt k)), (2, .ref (adM 0)), (1, .ref (adX 0)), (0, .ref b0)] [.int (Int32.ofInt v), .int (Int32.ofInt v)] (wOf TM adM (cAX X) b1 ++ wOf TX adX (cAX X) a1) nc ns
  refine JI.icmp_eqT hG 1093 dL_law_352 rfl ?_
  exact kk a1 b1 hs oa1 ob1
set_option maxRecDepth 100000 in
set_option maxHeartbeats 4000000 in
theorem lc_7 {X : CxI} (hG : GI X RL cL_law 4 9 600000 7302250 342) {b0 Ln : Nat} {xs : Nat → Int32} (hS : Scr X b0 Ln xs) {nc ns : Nat} (hcs : nc ≤ 600000 ∧ ns ≤ 7302250) {adX adM : Nat → Nat} (hadX : ∀ i j, i < TX.length → j < TX.length → adX i = adX j → i = j) (hadM : ∀ i j, i < TM.length → j < TM.length → adM i = adM j → i = j) (k : Int) (hk : 0 ≤ k ∧ k + 5 ≤ Ln ∧ Ln ≤ 320) {a b : Mem} (h : Sim a b) (oa : okM a) (ob : okM b) (kk : ∀ a1 b1, Sim a1 b1 → okM a1 → okM b1 → JI X 4 1093 [(3, .int (Int32.ofInt k)), (2, .ref (adM 0)), (1, .ref (adX 0)), (0, .ref b0)] [] (wOf TM adM (cAX X) b1 ++ wOf TX adX (cAX X) a1) nc ns) : JI X 4 357 [(3, .int (Int32.ofInt k)), (2, .ref (adM 0)), (1, .ref (adX 0)), (0, .ref b0)] [] (wOf TM adM (cAX X) b ++ wOf TX adX (cAX X) a) nc ns := by
  obtain ⟨Px, hx, hpost⟩ := st_passes (zz xs (k + 1)) a b h
  refine JI.aload_n hG 2 1 dL_law_357 rfl rfl ?_
  refine JI.aload_n hG 3 0 dL_law_358 rfl rfl ?_
  refine JI.iload_n hG 0 3 dL_law_359 rfl rfl ?_
  refine JI.iconst hG (Int32.ofInt 1) dL_law_360 rfl ?_
  refine JI.iaddI hG dL_law_361 ?_
  refine JI.sldI hG hS (by omega) (by omega) (by omega) dL_law_362 ?_
  refine JI.callW hG (as := [aI (zz xs (k + 1))]) (st := []) hx ok_X6_passes ml_L_45 rfl rfl rfl hadX (by intro v hv; simp only [List.mem_cons, List.not_mem_nil, or_false] at hv; rcases hv with rfl <;> exact okTo _) oa rfl (Nat.le_of_ble_eq_true rfl) ⟨Nat.le_of_ble_eq_true rfl, Nat.le_of_ble_eq_true rfl⟩ hcs dL_law_363 rfl (fun r a1 hp oa1 => ?_)
  obtain ⟨Pm, hm, hpost2⟩ := hpost r a1 hp
  refine JI.aload_n hG 1 2 dL_law_366 rfl rfl ?_
  refine JI.aload_n hG 3 0 dL_law_367 rfl rfl ?_
  refine JI.iload_n hG 0 3 dL_law_368 rfl rfl ?_
  refine JI.iconst hG (Int32.ofInt 1) dL_law_369 rfl ?_
  refine JI.iaddI hG dL_law_370 ?_
  refine JI.sldI hG hS (by omega) (by omega) (by omega) dL_law_371 ?_
  refine JI.comm ?_
  refine JI.callW hG (as := [aI (zz xs (k + 1))]) (st := mcV adX r ++ []) hm ok_X7_passes ml_L_48 rfl rfl rfl hadM (by intro v hv; simp only [List.mem_cons, List.not_mem_nil, or_false] at hv; rcases hv with rfl <;> exact okTo _) ob rfl (mcV_len adX r [] (Nat.zero_le 3)) ⟨Nat.le_of_ble_eq_true rfl, Nat.le_of_ble_eq_true rfl⟩ hcs dL_law_372 rfl (fun r2 b1 hq ob1 => ?_)
  obtain ⟨v, rfl, rfl, hs⟩ := hpost2 r2 b1 hq
  refine JI.comm ?_
  show JI X 4 375 [(3, .int (Int32.ofInt k)), (2, .ref (adM 0)), (1, .ref (adX 0)), (0, .ref b0)] [.int (Int32.ofInt v), .int (Int32.ofInt v)] (wOf TM adM (cAX X) b1 ++ wOf TX adX (cAX X) a1) nc ns
  refine JI.icmp_eqT hG 1093 dL_law_375 rfl ?_
  exact kk a1 b1 hs oa1 ob1
set_option maxRecDepth 100000 in
set_option maxHeartbeats 4000000 in
theorem lc_8 {X : CxI} (hG : GI X RL cL_law 4 9 600000 7302250 342) {b0 Ln : Nat} {xs : Nat → Int32} (hS : Scr X b0 Ln xs) {nc ns : Nat} (hcs : nc ≤ 600000 ∧ ns ≤ 7302250) {adX adM : Nat → Nat} (hadX : ∀ i j, i < TX.length → j < TX.length → adX i = adX j → i = j) (hadM : ∀ i j, i < TM.length → j < TM.length → adM i = adM j → i = j) (k : Int) (hk : 0 ≤ k ∧ k + 5 ≤ Ln ∧ Ln ≤ 320) {a b : Mem} (h : Sim a b) (oa : okM a) (ob : okM b) (kk : ∀ a1 b1, Sim a1 b1 → okM a1 → okM b1 → JI X 4 1093 [(3, .int (Int32.ofInt k)), (2, .ref (adM 0)), (1, .ref (adX 0)), (0, .ref b0)] [] (wOf TM adM (cAX X) b1 ++ wOf TX adX (cAX X) a1) nc ns) : JI X 4 380 [(3, .int (Int32.ofInt k)), (2, .ref (adM 0)), (1, .ref (adX 0)), (0, .ref b0)] [] (wOf TM adM (cAX X) b ++ wOf TX adX (cAX X) a) nc ns := by
  obtain ⟨Px, hx, hpost⟩ := st_changes (zz xs (k + 1)) (zz xs (k + 2)) (zz xs (k + 3)) a b h
  refine JI.aload_n hG 2 1 dL_law_380 rfl rfl ?_
  refine JI.aload_n hG 3 0 dL_law_381 rfl rfl ?_
  refine JI.iload_n hG 0 3 dL_law_382 rfl rfl ?_
  refine JI.iconst hG (Int32.ofInt 1) dL_law_383 rfl ?_
  refine JI.iaddI hG dL_law_384 ?_
  refine JI.sldI hG hS (by omega) (by omega) (by omega) dL_law_385 ?_
  refine JI.aload_n hG 3 0 dL_law_386 rfl rfl ?_
  refine JI.iload_n hG 0 3 dL_law_387 rfl rfl ?_
  refine JI.iconst hG (Int32.ofInt 2) dL_law_388 rfl ?_
  refine JI.iaddI hG dL_law_389 ?_
  refine JI.sldI hG hS (by omega) (by omega) (by omega) dL_law_390 ?_
  refine JI.aload_n hG 3 0 dL_law_391 rfl rfl ?_
  refine JI.iload_n hG 0 3 dL_law_392 rfl rfl ?_
  refine JI.iconst hG (Int32.ofInt 3) dL_law_393 rfl ?_
  refine JI.iaddI hG dL_law_394 ?_
  refine JI.sldI hG hS (by omega) (by omega) (by omega) dL_law_395 ?_
  refine JI.callW hG (as := [aI (zz xs (k + 1)), aI (zz xs (k + 2)), aI (zz xs (k + 3))]) (st := []) hx ok_X6_changes ml_L_49 rfl rfl rfl hadX (by intro v hv; simp only [List.mem_cons, List.not_mem_nil, or_false] at hv; rcases hv with rfl | rfl | rfl <;> exact okTo _) oa rfl (Nat.le_of_ble_eq_true rfl) ⟨Nat.le_of_ble_eq_true rfl, Nat.le_of_ble_eq_true rfl⟩ hcs dL_law_396 rfl (fun r a1 hp oa1 => ?_)
  obtain ⟨Pm, hm, hpost2⟩ := hpost r a1 hp
  refine JI.aload_n hG 1 2 dL_law_399 rfl rfl ?_
  refine JI.aload_n hG 3 0 dL_law_400 rfl rfl ?_
  refine JI.iload_n hG 0 3 dL_law_401 rfl rfl ?_
  refine JI.iconst hG (Int32.ofInt 1) dL_law_402 rfl ?_
  refine JI.iaddI hG dL_law_403 ?_
  refine JI.sldI hG hS (by omega) (by omega) (by omega) dL_law_404 ?_
  refine JI.aload_n hG 3 0 dL_law_405 rfl rfl ?_
  refine JI.iload_n hG 0 3 dL_law_406 rfl rfl ?_
  refine JI.iconst hG (Int32.ofInt 2) dL_law_407 rfl ?_
  refine JI.iaddI hG dL_law_408 ?_
  refine JI.sldI hG hS (by omega) (by omega) (by omega) dL_law_409 ?_
  refine JI.aload_n hG 3 0 dL_law_410 rfl rfl ?_
  refine JI.iload_n hG 0 3 dL_law_411 rfl rfl ?_
  refine JI.iconst hG (Int32.ofInt 3) dL_law_412 rfl ?_
  refine JI.iaddI hG dL_law_413 ?_
  refine JI.sldI hG hS (by omega) (by omega) (by omega) dL_law_414 ?_
  refine JI.comm ?_
  refine JI.callW hG (as := [aI (zz xs (k + 1)), aI (zz xs (k + 2)), aI (zz xs (k + 3))]) (st := mcV adX r ++ []) hm ok_X7_changes ml_L_52 rfl rfl rfl hadM (by intro v hv; simp only [List.mem_cons, List.not_mem_nil, or_false] at hv; rcases hv with rfl | rfl | rfl <;> exact okTo _) ob rfl (mcV_len adX r [] (Nat.zero_le 3)) ⟨Nat.le_of_ble_eq_true rfl, Nat.le_of_ble_eq_true rfl⟩ hcs dL_law_415 rfl (fun r2 b1 hq ob1 => ?_)
  obtain ⟨v, rfl, rfl, hs⟩ := hpost2 r2 b1 hq
  refine JI.comm ?_
  show JI X 4 418 [(3, .int (Int32.ofInt k)), (2, .ref (adM 0)), (1, .ref (adX 0)), (0, .ref b0)] [.int (Int32.ofInt v), .int (Int32.ofInt v)] (wOf TM adM (cAX X) b1 ++ wOf TX adX (cAX X) a1) nc ns
  refine JI.icmp_eqT hG 1093 dL_law_418 rfl ?_
  exact kk a1 b1 hs oa1 ob1
set_option maxRecDepth 100000 in
set_option maxHeartbeats 4000000 in
theorem lc_9 {X : CxI} (hG : GI X RL cL_law 4 9 600000 7302250 342) {b0 Ln : Nat} {xs : Nat → Int32} (hS : Scr X b0 Ln xs) {nc ns : Nat} (hcs : nc ≤ 600000 ∧ ns ≤ 7302250) {adX adM : Nat → Nat} (hadX : ∀ i j, i < TX.length → j < TX.length → adX i = adX j → i = j) (hadM : ∀ i j, i < TM.length → j < TM.length → adM i = adM j → i = j) (k : Int) (hk : 0 ≤ k ∧ k + 5 ≤ Ln ∧ Ln ≤ 320) {a b : Mem} (h : Sim a b) (oa : okM a) (ob : okM b) (kk : ∀ a1 b1, Sim a1 b1 → okM a1 → okM b1 → JI X 4 1093 [(3, .int (Int32.ofInt k)), (2, .ref (adM 0)), (1, .ref (adX 0)), (0, .ref b0)] [] (wOf TM adM (cAX X) b1 ++ wOf TX adX (cAX X) a1) nc ns) : JI X 4 423 [(3, .int (Int32.ofInt k)), (2, .ref (adM 0)), (1, .ref (adX 0)), (0, .ref b0)] [] (wOf TM adM (cAX X) b ++ wOf TX adX (cAX X) a) nc ns := by
  obtain ⟨Px, hx, hpost⟩ := st_law (zz xs (k + 1)) (zz xs (k + 2)) (zz xs (k + 3)) a b h
  refine JI.aload_n hG 2 1 dL_law_423 rfl rfl ?_
  refine JI.aload_n hG 3 0 dL_law_424 rfl rfl ?_
  refine JI.iload_n hG 0 3 dL_law_425 rfl rfl ?_
  refine JI.iconst hG (Int32.ofInt 1) dL_law_426 rfl ?_
  refine JI.iaddI hG dL_law_427 ?_
  refine JI.sldI hG hS (by omega) (by omega) (by omega) dL_law_428 ?_
  refine JI.aload_n hG 3 0 dL_law_429 rfl rfl ?_
  refine JI.iload_n hG 0 3 dL_law_430 rfl rfl ?_
  refine JI.iconst hG (Int32.ofInt 2) dL_law_431 rfl ?_
  refine JI.iaddI hG dL_law_432 ?_
  refine JI.sldI hG hS (by omega) (by omega) (by omega) dL_law_433 ?_
  refine JI.aload_n hG 3 0 dL_law_434 rfl rfl ?_
  refine JI.iload_n hG 0 3 dL_law_435 rfl rfl ?_
  refine JI.iconst hG (Int32.ofInt 3) dL_law_436 rfl ?_
  refine JI.iaddI hG dL_law_437 ?_
  refine JI.sldI hG hS (by omega) (by omega) (by omega) dL_law_438 ?_
  refine JI.callW hG (as := [aI (zz xs (k + 1)), aI (zz xs (k + 2)), aI (zz xs (k + 3))]) (st := []) hx ok_X6_law ml_L_53 rfl rfl rfl hadX (by intro v hv; simp only [List.mem_cons, List.not_mem_nil, or_false] at hv; rcases hv with rfl | rfl | rfl <;> exact okTo _) oa rfl (Nat.le_of_ble_eq_true rfl) ⟨Nat.le_of_ble_eq_true rfl, Nat.le_of_ble_eq_true rfl⟩ hcs dL_law_439 rfl (fun r a1 hp oa1 => ?_)
  obtain ⟨Pm, hm, hpost2⟩ := hpost r a1 hp
  refine JI.aload_n hG 1 2 dL_law_442 rfl rfl ?_
  refine JI.aload_n hG 3 0 dL_law_443 rfl rfl ?_
  refine JI.iload_n hG 0 3 dL_law_444 rfl rfl ?_
  refine JI.iconst hG (Int32.ofInt 1) dL_law_445 rfl ?_
  refine JI.iaddI hG dL_law_446 ?_
  refine JI.sldI hG hS (by omega) (by omega) (by omega) dL_law_447 ?_
  refine JI.aload_n hG 3 0 dL_law_448 rfl rfl ?_
  refine JI.iload_n hG 0 3 dL_law_449 rfl rfl ?_
  refine JI.iconst hG (Int32.ofInt 2) dL_law_450 rfl ?_
  refine JI.iaddI hG dL_law_451 ?_
  refine JI.sldI hG hS (by omega) (by omega) (by omega) dL_law_452 ?_
  refine JI.aload_n hG 3 0 dL_law_453 rfl rfl ?_
  refine JI.iload_n hG 0 3 dL_law_454 rfl rfl ?_
  refine JI.iconst hG (Int32.ofInt 3) dL_law_455 rfl ?_
  refine JI.iaddI hG dL_law_456 ?_
  refine JI.sldI hG hS (by omega) (by omega) (by omega) dL_law_457 ?_
  refine JI.comm ?_
  refine JI.callW hG (as := [aI (zz xs (k + 1)), aI (zz xs (k + 2)), aI (zz xs (k + 3))]) (st := mcV adX r ++ []) hm ok_X7_law ml_L_56 rfl rfl rfl hadM (by intro v hv; simp only [List.mem_cons, List.not_mem_nil, or_false] at hv; rcases hv with rfl | rfl | rfl <;> exact okTo _) ob rfl (mcV_len adX r [] (Nat.zero_le 3)) ⟨Nat.le_of_ble_eq_true rfl, Nat.le_of_ble_eq_true rfl⟩ hcs dL_law_458 rfl (fun r2 b1 hq ob1 => ?_)
  obtain ⟨v, rfl, rfl, hs⟩ := hpost2 r2 b1 hq
  refine JI.comm ?_
  show JI X 4 461 [(3, .int (Int32.ofInt k)), (2, .ref (adM 0)), (1, .ref (adX 0)), (0, .ref b0)] [.int (Int32.ofInt v), .int (Int32.ofInt v)] (wOf TM adM (cAX X) b1 ++ wOf TX adX (cAX X) a1) nc ns
  refine JI.icmp_eqT hG 1093 dL_law_461 rfl ?_
  exact kk a1 b1 hs oa1 ob1
set_option maxRecDepth 100000 in
set_option maxHeartbeats 4000000 in
theorem lc_10 {X : CxI} (hG : GI X RL cL_law 4 9 600000 7302250 342) {b0 Ln : Nat} {xs : Nat → Int32} (hS : Scr X b0 Ln xs) {nc ns : Nat} (hcs : nc ≤ 600000 ∧ ns ≤ 7302250) {adX adM : Nat → Nat} (hadX : ∀ i j, i < TX.length → j < TX.length → adX i = adX j → i = j) (hadM : ∀ i j, i < TM.length → j < TM.length → adM i = adM j → i = j) (k : Int) (hk : 0 ≤ k ∧ k + 5 ≤ Ln ∧ Ln ≤ 320) {a b : Mem} (h : Sim a b) (oa : okM a) (ob : okM b) (kk : ∀ a1 b1, Sim a1 b1 → okM a1 → okM b1 → JI X 4 1093 [(3, .int (Int32.ofInt k)), (2, .ref (adM 0)), (1, .ref (adX 0)), (0, .ref b0)] [] (wOf TM adM (cAX X) b1 ++ wOf TX adX (cAX X) a1) nc ns) : JI X 4 466 [(3, .int (Int32.ofInt k)), (2, .ref (adM 0)), (1, .ref (adX 0)), (0, .ref b0)] [] (wOf TM adM (cAX X) b ++ wOf TX adX (cAX X) a) nc ns := by
  obtain ⟨Px, hx, hpost⟩ := st_undo  a b h
  refine JI.aload_n hG 2 1 dL_law_466 rfl rfl ?_
  refine JI.callW hG (as := []) (st := []) hx ok_X6_undo ml_L_57 rfl rfl rfl hadX (fun v hv => absurd hv List.not_mem_nil) oa rfl (Nat.le_of_ble_eq_true rfl) ⟨Nat.le_of_ble_eq_true rfl, Nat.le_of_ble_eq_true rfl⟩ hcs dL_law_467 rfl (fun r a1 hp oa1 => ?_)
  obtain ⟨Pm, hm, hpost2⟩ := hpost r a1 hp
  refine JI.aload_n hG 1 2 dL_law_470 rfl rfl ?_
  refine JI.comm ?_
  refine JI.callW hG (as := []) (st := mcV adX r ++ []) hm ok_X7_undo ml_L_60 rfl rfl rfl hadM (fun v hv => absurd hv List.not_mem_nil) ob rfl (mcV_len adX r [] (Nat.zero_le 3)) ⟨Nat.le_of_ble_eq_true rfl, Nat.le_of_ble_eq_true rfl⟩ hcs dL_law_471 rfl (fun r2 b1 hq ob1 => ?_)
  obtain ⟨v, rfl, rfl, hs⟩ := hpost2 r2 b1 hq
  refine JI.comm ?_
  show JI X 4 474 [(3, .int (Int32.ofInt k)), (2, .ref (adM 0)), (1, .ref (adX 0)), (0, .ref b0)] [.int (Int32.ofInt v), .int (Int32.ofInt v)] (wOf TM adM (cAX X) b1 ++ wOf TX adX (cAX X) a1) nc ns
  refine JI.icmp_eqT hG 1093 dL_law_474 rfl ?_
  exact kk a1 b1 hs oa1 ob1
set_option maxRecDepth 100000 in
set_option maxHeartbeats 4000000 in
theorem lc_11 {X : CxI} (hG : GI X RL cL_law 4 9 600000 7302250 342) {b0 Ln : Nat} {xs : Nat → Int32} (hS : Scr X b0 Ln xs) {nc ns : Nat} (hcs : nc ≤ 600000 ∧ ns ≤ 7302250) {adX adM : Nat → Nat} (hadX : ∀ i j, i < TX.length → j < TX.length → adX i = adX j → i = j) (hadM : ∀ i j, i < TM.length → j < TM.length → adM i = adM j → i = j) (k : Int) (hk : 0 ≤ k ∧ k + 5 ≤ Ln ∧ Ln ≤ 320) {a b : Mem} (h : Sim a b) (oa : okM a) (ob : okM b) (kk : ∀ a1 b1, Sim a1 b1 → okM a1 → okM b1 → JI X 4 1093 [(3, .int (Int32.ofInt k)), (2, .ref (adM 0)), (1, .ref (adX 0)), (0, .ref b0)] [] (wOf TM adM (cAX X) b1 ++ wOf TX adX (cAX X) a1) nc ns) : JI X 4 479 [(3, .int (Int32.ofInt k)), (2, .ref (adM 0)), (1, .ref (adX 0)), (0, .ref b0)] [] (wOf TM adM (cAX X) b ++ wOf TX adX (cAX X) a) nc ns := by
  obtain ⟨Px, hx, hpost⟩ := st_now (zz xs (k + 1)) a b h
  refine JI.aload_n hG 2 1 dL_law_479 rfl rfl ?_
  refine JI.aload_n hG 3 0 dL_law_480 rfl rfl ?_
  refine JI.iload_n hG 0 3 dL_law_481 rfl rfl ?_
  refine JI.iconst hG (Int32.ofInt 1) dL_law_482 rfl ?_
  refine JI.iaddI hG dL_law_483 ?_
  refine JI.sldI hG hS (by omega) (by omega) (by omega) dL_law_484 ?_
  refine JI.callW hG (as := [aI (zz xs (k + 1))]) (st := []) hx ok_X6_now ml_L_61 rfl rfl rfl hadX (by intro v hv; simp only [List.mem_cons, List.not_mem_nil, or_false] at hv; rcases hv with rfl <;> exact okTo _) oa rfl (Nat.le_of_ble_eq_true rfl) ⟨Nat.le_of_ble_eq_true rfl, Nat.le_of_ble_eq_true rfl⟩ hcs dL_law_485 rfl (fun r a1 hp oa1 => ?_)
  obtain ⟨Pm, hm, hpost2⟩ := hpost r a1 hp
  refine JI.aload_n hG 1 2 dL_law_488 rfl rfl ?_
  refine JI.aload_n hG 3 0 dL_law_489 rfl rfl ?_
  refine JI.iload_n hG 0 3 dL_law_490 rfl rfl ?_
  refine JI.iconst hG (Int32.ofInt 1) dL_law_491 rfl ?_
  refine JI.iaddI hG dL_law_492 ?_
  refine JI.sldI hG hS (by omega) (by omega) (by omega) dL_law_493 ?_
  refine JI.comm ?_
  refine JI.callW hG (as := [aI (zz xs (k + 1))]) (st := mcV adX r ++ []) hm ok_X7_now ml_L_64 rfl rfl rfl hadM (by intro v hv; simp only [List.mem_cons, List.not_mem_nil, or_false] at hv; rcases hv with rfl <;> exact okTo _) ob rfl (mcV_len adX r [] (Nat.zero_le 3)) ⟨Nat.le_of_ble_eq_true rfl, Nat.le_of_ble_eq_true rfl⟩ hcs dL_law_494 rfl (fun r2 b1 hq ob1 => ?_)
  obtain ⟨v, rfl, rfl, hs⟩ := hpost2 r2 b1 hq
  refine JI.comm ?_
  show JI X 4 497 [(3, .int (Int32.ofInt k)), (2, .ref (adM 0)), (1, .ref (adX 0)), (0, .ref b0)] [.int (Int32.ofInt v), .int (Int32.ofInt v)] (wOf TM adM (cAX X) b1 ++ wOf TX adX (cAX X) a1) nc ns
  refine JI.icmp_eqT hG 1093 dL_law_497 rfl ?_
  exact kk a1 b1 hs oa1 ob1
set_option maxRecDepth 100000 in
set_option maxHeartbeats 4000000 in
theorem lc_12 {X : CxI} (hG : GI X RL cL_law 4 9 600000 7302250 342) {b0 Ln : Nat} {xs : Nat → Int32} (hS : Scr X b0 Ln xs) {nc ns : Nat} (hcs : nc ≤ 600000 ∧ ns ≤ 7302250) {adX adM : Nat → Nat} (hadX : ∀ i j, i < TX.length → j < TX.length → adX i = adX j → i = j) (hadM : ∀ i j, i < TM.length → j < TM.length → adM i = adM j → i = j) (k : Int) (hk : 0 ≤ k ∧ k + 5 ≤ Ln ∧ Ln ≤ 320) {a b : Mem} (h : Sim a b) (oa : okM a) (ob : okM b) (kk : ∀ a1 b1, Sim a1 b1 → okM a1 → okM b1 → JI X 4 1093 [(3, .int (Int32.ofInt k)), (2, .ref (adM 0)), (1, .ref (adX 0)), (0, .ref b0)] [] (wOf TM adM (cAX X) b1 ++ wOf TX adX (cAX X) a1) nc ns) : JI X 4 502 [(3, .int (Int32.ofInt k)), (2, .ref (adM 0)), (1, .ref (adX 0)), (0, .ref b0)] [] (wOf TM adM (cAX X) b ++ wOf TX adX (cAX X) a) nc ns := by
  obtain ⟨Px, hx, hpost⟩ := st_behind (zz xs (k + 1)) (zz xs (k + 2)) (zz xs (k + 3)) a b h
  refine JI.aload_n hG 2 1 dL_law_502 rfl rfl ?_
  refine JI.aload_n hG 3 0 dL_law_503 rfl rfl ?_
  refine JI.iload_n hG 0 3 dL_law_504 rfl rfl ?_
  refine JI.iconst hG (Int32.ofInt 1) dL_law_505 rfl ?_
  refine JI.iaddI hG dL_law_506 ?_
  refine JI.sldI hG hS (by omega) (by omega) (by omega) dL_law_507 ?_
  refine JI.aload_n hG 3 0 dL_law_508 rfl rfl ?_
  refine JI.iload_n hG 0 3 dL_law_509 rfl rfl ?_
  refine JI.iconst hG (Int32.ofInt 2) dL_law_510 rfl ?_
  refine JI.iaddI hG dL_law_511 ?_
  refine JI.sldI hG hS (by omega) (by omega) (by omega) dL_law_512 ?_
  refine JI.aload_n hG 3 0 dL_law_513 rfl rfl ?_
  refine JI.iload_n hG 0 3 dL_law_514 rfl rfl ?_
  refine JI.iconst hG (Int32.ofInt 3) dL_law_515 rfl ?_
  refine JI.iaddI hG dL_law_516 ?_
  refine JI.sldI hG hS (by omega) (by omega) (by omega) dL_law_517 ?_
  refine JI.callW hG (as := [aI (zz xs (k + 1)), aI (zz xs (k + 2)), aI (zz xs (k + 3))]) (st := []) hx ok_X6_behind ml_L_65 rfl rfl rfl hadX (by intro v hv; simp only [List.mem_cons, List.not_mem_nil, or_false] at hv; rcases hv with rfl | rfl | rfl <;> exact okTo _) oa rfl (Nat.le_of_ble_eq_true rfl) ⟨Nat.le_of_ble_eq_true rfl, Nat.le_of_ble_eq_true rfl⟩ hcs dL_law_518 rfl (fun r a1 hp oa1 => ?_)
  obtain ⟨Pm, hm, hpost2⟩ := hpost r a1 hp
  refine JI.aload_n hG 1 2 dL_law_521 rfl rfl ?_
  refine JI.aload_n hG 3 0 dL_law_522 rfl rfl ?_
  refine JI.iload_n hG 0 3 dL_law_523 rfl rfl ?_
  refine JI.iconst hG (Int32.ofInt 1) dL_law_524 rfl ?_
  refine JI.iaddI hG dL_law_525 ?_
  refine JI.sldI hG hS (by omega) (by omega) (by omega) dL_law_526 ?_
  refine JI.aload_n hG 3 0 dL_law_527 rfl rfl ?_
  refine JI.iload_n hG 0 3 dL_law_528 rfl rfl ?_
  refine JI.iconst hG (Int32.ofInt 2) dL_law_529 rfl ?_
  refine JI.iaddI hG dL_law_530 ?_
  refine JI.sldI hG hS (by omega) (by omega) (by omega) dL_law_531 ?_
  refine JI.aload_n hG 3 0 dL_law_532 rfl rfl ?_
  refine JI.iload_n hG 0 3 dL_law_533 rfl rfl ?_
  refine JI.iconst hG (Int32.ofInt 3) dL_law_534 rfl ?_
  refine JI.iaddI hG dL_law_535 ?_
  refine JI.sldI hG hS (by omega) (by omega) (by omega) dL_law_536 ?_
  refine JI.comm ?_
  refine JI.callW hG (as := [aI (zz xs (k + 1)), aI (zz xs (k + 2)), aI (zz xs (k + 3))]) (st := mcV adX r ++ []) hm ok_X7_behind ml_L_68 rfl rfl rfl hadM (by intro v hv; simp only [List.mem_cons, List.not_mem_nil, or_false] at hv; rcases hv with rfl | rfl | rfl <;> exact okTo _) ob rfl (mcV_len adX r [] (Nat.zero_le 3)) ⟨Nat.le_of_ble_eq_true rfl, Nat.le_of_ble_eq_true rfl⟩ hcs dL_law_537 rfl (fun r2 b1 hq ob1 => ?_)
  obtain ⟨v, rfl, rfl, hs⟩ := hpost2 r2 b1 hq
  refine JI.comm ?_
  show JI X 4 540 [(3, .int (Int32.ofInt k)), (2, .ref (adM 0)), (1, .ref (adX 0)), (0, .ref b0)] [.int (Int32.ofInt v), .int (Int32.ofInt v)] (wOf TM adM (cAX X) b1 ++ wOf TX adX (cAX X) a1) nc ns
  refine JI.icmp_eqT hG 1093 dL_law_540 rfl ?_
  exact kk a1 b1 hs oa1 ob1
set_option maxRecDepth 100000 in
set_option maxHeartbeats 4000000 in
theorem lc_13 {X : CxI} (hG : GI X RL cL_law 4 9 600000 7302250 342) {b0 Ln : Nat} {xs : Nat → Int32} (hS : Scr X b0 Ln xs) {nc ns : Nat} (hcs : nc ≤ 600000 ∧ ns ≤ 7302250) {adX adM : Nat → Nat} (hadX : ∀ i j, i < TX.length → j < TX.length → adX i = adX j → i = j) (hadM : ∀ i j, i < TM.length → j < TM.length → adM i = adM j → i = j) (k : Int) (hk : 0 ≤ k ∧ k + 5 ≤ Ln ∧ Ln ≤ 320) {a b : Mem} (h : Sim a b) (oa : okM a) (ob : okM b) (kk : ∀ a1 b1, Sim a1 b1 → okM a1 → okM b1 → JI X 4 1093 [(3, .int (Int32.ofInt k)), (2, .ref (adM 0)), (1, .ref (adX 0)), (0, .ref b0)] [] (wOf TM adM (cAX X) b1 ++ wOf TX adX (cAX X) a1) nc ns) : JI X 4 545 [(3, .int (Int32.ofInt k)), (2, .ref (adM 0)), (1, .ref (adX 0)), (0, .ref b0)] [] (wOf TM adM (cAX X) b ++ wOf TX adX (cAX X) a) nc ns := by
  obtain ⟨Px, hx, hpost⟩ := st_first (zz xs (k + 1)) (zz xs (k + 2)) a b h
  refine JI.aload_n hG 2 1 dL_law_545 rfl rfl ?_
  refine JI.aload_n hG 3 0 dL_law_546 rfl rfl ?_
  refine JI.iload_n hG 0 3 dL_law_547 rfl rfl ?_
  refine JI.iconst hG (Int32.ofInt 1) dL_law_548 rfl ?_
  refine JI.iaddI hG dL_law_549 ?_
  refine JI.sldI hG hS (by omega) (by omega) (by omega) dL_law_550 ?_
  refine JI.aload_n hG 3 0 dL_law_551 rfl rfl ?_
  refine JI.iload_n hG 0 3 dL_law_552 rfl rfl ?_
  refine JI.iconst hG (Int32.ofInt 2) dL_law_553 rfl ?_
  refine JI.iaddI hG dL_law_554 ?_
  refine JI.sldI hG hS (by omega) (by omega) (by omega) dL_law_555 ?_
  refine JI.callW hG (as := [aI (zz xs (k + 1)), aI (zz xs (k + 2))]) (st := []) hx ok_X6_first ml_L_69 rfl rfl rfl hadX (by intro v hv; simp only [List.mem_cons, List.not_mem_nil, or_false] at hv; rcases hv with rfl | rfl <;> exact okTo _) oa rfl (Nat.le_of_ble_eq_true rfl) ⟨Nat.le_of_ble_eq_true rfl, Nat.le_of_ble_eq_true rfl⟩ hcs dL_law_556 rfl (fun r a1 hp oa1 => ?_)
  obtain ⟨Pm, hm, hpost2⟩ := hpost r a1 hp
  refine JI.aload_n hG 1 2 dL_law_559 rfl rfl ?_
  refine JI.aload_n hG 3 0 dL_law_560 rfl rfl ?_
  refine JI.iload_n hG 0 3 dL_law_561 rfl rfl ?_
  refine JI.iconst hG (Int32.ofInt 1) dL_law_562 rfl ?_
  refine JI.iaddI hG dL_law_563 ?_
  refine JI.sldI hG hS (by omega) (by omega) (by omega) dL_law_564 ?_
  refine JI.aload_n hG 3 0 dL_law_565 rfl rfl ?_
  refine JI.iload_n hG 0 3 dL_law_566 rfl rfl ?_
  refine JI.iconst hG (Int32.ofInt 2) dL_law_567 rfl ?_
  refine JI.iaddI hG dL_law_568 ?_
  refine JI.sldI hG hS (by omega) (by omega) (by omega) dL_law_569 ?_
  refine JI.comm ?_
  refine JI.callW hG (as := [aI (zz xs (k + 1)), aI (zz xs (k + 2))]) (st := mcV adX r ++ []) hm ok_X7_first ml_L_72 rfl rfl rfl hadM (by intro v hv; simp only [List.mem_cons, List.not_mem_nil, or_false] at hv; rcases hv with rfl | rfl <;> exact okTo _) ob rfl (mcV_len adX r [] (Nat.zero_le 3)) ⟨Nat.le_of_ble_eq_true rfl, Nat.le_of_ble_eq_true rfl⟩ hcs dL_law_570 rfl (fun r2 b1 hq ob1 => ?_)
  obtain ⟨v, rfl, rfl, hs⟩ := hpost2 r2 b1 hq
  refine JI.comm ?_
  show JI X 4 573 [(3, .int (Int32.ofInt k)), (2, .ref (adM 0)), (1, .ref (adX 0)), (0, .ref b0)] [.int (Int32.ofInt v), .int (Int32.ofInt v)] (wOf TM adM (cAX X) b1 ++ wOf TX adX (cAX X) a1) nc ns
  refine JI.icmp_eqT hG 1093 dL_law_573 rfl ?_
  exact kk a1 b1 hs oa1 ob1
set_option maxRecDepth 100000 in
set_option maxHeartbeats 4000000 in
theorem lc_14 {X : CxI} (hG : GI X RL cL_law 4 9 600000 7302250 342) {b0 Ln : Nat} {xs : Nat → Int32} (hS : Scr X b0 Ln xs) {nc ns : Nat} (hcs : nc ≤ 600000 ∧ ns ≤ 7302250) {adX adM : Nat → Nat} (hadX : ∀ i j, i < TX.length → j < TX.length → adX i = adX j → i = j) (hadM : ∀ i j, i < TM.length → j < TM.length → adM i = adM j → i = j) (k : Int) (hk : 0 ≤ k ∧ k + 5 ≤ Ln ∧ Ln ≤ 320) {a b : Mem} (h : Sim a b) (oa : okM a) (ob : okM b) (kk : ∀ a1 b1, Sim a1 b1 → okM a1 → okM b1 → JI X 4 1093 [(3, .int (Int32.ofInt k)), (2, .ref (adM 0)), (1, .ref (adX 0)), (0, .ref b0)] [] (wOf TM adM (cAX X) b1 ++ wOf TX adX (cAX X) a1) nc ns) : JI X 4 578 [(3, .int (Int32.ofInt k)), (2, .ref (adM 0)), (1, .ref (adX 0)), (0, .ref b0)] [] (wOf TM adM (cAX X) b ++ wOf TX adX (cAX X) a) nc ns := by
  obtain ⟨Px, hx, hpost⟩ := st_freed (zz xs (k + 1)) (zz xs (k + 2)) (zz xs (k + 3)) a b h
  refine JI.aload_n hG 2 1 dL_law_578 rfl rfl ?_
  refine JI.aload_n hG 3 0 dL_law_579 rfl rfl ?_
  refine JI.iload_n hG 0 3 dL_law_580 rfl rfl ?_
  refine JI.iconst hG (Int32.ofInt 1) dL_law_581 rfl ?_
  refine JI.iaddI hG dL_law_582 ?_
  refine JI.sldI hG hS (by omega) (by omega) (by omega) dL_law_583 ?_
  refine JI.aload_n hG 3 0 dL_law_584 rfl rfl ?_
  refine JI.iload_n hG 0 3 dL_law_585 rfl rfl ?_
  refine JI.iconst hG (Int32.ofInt 2) dL_law_586 rfl ?_
  refine JI.iaddI hG dL_law_587 ?_
  refine JI.sldI hG hS (by omega) (by omega) (by omega) dL_law_588 ?_
  refine JI.aload_n hG 3 0 dL_law_589 rfl rfl ?_
  refine JI.iload_n hG 0 3 dL_law_590 rfl rfl ?_
  refine JI.iconst hG (Int32.ofInt 3) dL_law_591 rfl ?_
  refine JI.iaddI hG dL_law_592 ?_
  refine JI.sldI hG hS (by omega) (by omega) (by omega) dL_law_593 ?_
  refine JI.callW hG (as := [aI (zz xs (k + 1)), aI (zz xs (k + 2)), aI (zz xs (k + 3))]) (st := []) hx ok_X6_freed ml_L_73 rfl rfl rfl hadX (by intro v hv; simp only [List.mem_cons, List.not_mem_nil, or_false] at hv; rcases hv with rfl | rfl | rfl <;> exact okTo _) oa rfl (Nat.le_of_ble_eq_true rfl) ⟨Nat.le_of_ble_eq_true rfl, Nat.le_of_ble_eq_true rfl⟩ hcs dL_law_594 rfl (fun r a1 hp oa1 => ?_)
  obtain ⟨Pm, hm, hpost2⟩ := hpost r a1 hp
  refine JI.aload_n hG 1 2 dL_law_597 rfl rfl ?_
  refine JI.aload_n hG 3 0 dL_law_598 rfl rfl ?_
  refine JI.iload_n hG 0 3 dL_law_599 rfl rfl ?_
  refine JI.iconst hG (Int32.ofInt 1) dL_law_600 rfl ?_
  refine JI.iaddI hG dL_law_601 ?_
  refine JI.sldI hG hS (by omega) (by omega) (by omega) dL_law_602 ?_
  refine JI.aload_n hG 3 0 dL_law_603 rfl rfl ?_
  refine JI.iload_n hG 0 3 dL_law_604 rfl rfl ?_
  refine JI.iconst hG (Int32.ofInt 2) dL_law_605 rfl ?_
  refine JI.iaddI hG dL_law_606 ?_
  refine JI.sldI hG hS (by omega) (by omega) (by omega) dL_law_607 ?_
  refine JI.aload_n hG 3 0 dL_law_608 rfl rfl ?_
  refine JI.iload_n hG 0 3 dL_law_609 rfl rfl ?_
  refine JI.iconst hG (Int32.ofInt 3) dL_law_610 rfl ?_
  refine JI.iaddI hG dL_law_611 ?_
  refine JI.sldI hG hS (by omega) (by omega) (by omega) dL_law_612 ?_
  refine JI.comm ?_
  refine JI.callW hG (as := [aI (zz xs (k + 1)), aI (zz xs (k + 2)), aI (zz xs (k + 3))]) (st := mcV adX r ++ []) hm ok_X7_freed ml_L_76 rfl rfl rfl hadM (by intro v hv; simp only [List.mem_cons, List.not_mem_nil, or_false] at hv; rcases hv with rfl | rfl | rfl <;> exact okTo _) ob rfl (mcV_len adX r [] (Nat.zero_le 3)) ⟨Nat.le_of_ble_eq_true rfl, Nat.le_of_ble_eq_true rfl⟩ hcs dL_law_613 rfl (fun r2 b1 hq ob1 => ?_)
  obtain ⟨v, rfl, rfl, hs⟩ := hpost2 r2 b1 hq
  refine JI.comm ?_
  show JI X 4 616 [(3, .int (Int32.ofInt k)), (2, .ref (adM 0)), (1, .ref (adX 0)), (0, .ref b0)] [.int (Int32.ofInt v), .int (Int32.ofInt v)] (wOf TM adM (cAX X) b1 ++ wOf TX adX (cAX X) a1) nc ns
  refine JI.icmp_eqT hG 1093 dL_law_616 rfl ?_
  exact kk a1 b1 hs oa1 ob1
set_option maxRecDepth 100000 in
set_option maxHeartbeats 4000000 in
theorem lc_15 {X : CxI} (hG : GI X RL cL_law 4 9 600000 7302250 342) {b0 Ln : Nat} {xs : Nat → Int32} (hS : Scr X b0 Ln xs) {nc ns : Nat} (hcs : nc ≤ 600000 ∧ ns ≤ 7302250) {adX adM : Nat → Nat} (hadX : ∀ i j, i < TX.length → j < TX.length → adX i = adX j → i = j) (hadM : ∀ i j, i < TM.length → j < TM.length → adM i = adM j → i = j) (k : Int) (hk : 0 ≤ k ∧ k + 5 ≤ Ln ∧ Ln ≤ 320) {a b : Mem} (h : Sim a b) (oa : okM a) (ob : okM b) (kk : ∀ a1 b1, Sim a1 b1 → okM a1 → okM b1 → JI X 4 1093 [(3, .int (Int32.ofInt k)), (2, .ref (adM 0)), (1, .ref (adX 0)), (0, .ref b0)] [] (wOf TM adM (cAX X) b1 ++ wOf TX adX (cAX X) a1) nc ns) : JI X 4 621 [(3, .int (Int32.ofInt k)), (2, .ref (adM 0)), (1, .ref (adX 0)), (0, .ref b0)] [] (wOf TM adM (cAX X) b ++ wOf TX adX (cAX X) a) nc ns := by
  obtain ⟨Px, hx, hpost⟩ := st_bestJump (zz xs (k + 1)) (zz xs (k + 2)) a b h
  refine JI.aload_n hG 2 1 dL_law_621 rfl rfl ?_
  refine JI.aload_n hG 3 0 dL_law_622 rfl rfl ?_
  refine JI.iload_n hG 0 3 dL_law_623 rfl rfl ?_
  refine JI.iconst hG (Int32.ofInt 1) dL_law_624 rfl ?_
  refine JI.iaddI hG dL_law_625 ?_
  refine JI.sldI hG hS (by omega) (by omega) (by omega) dL_law_626 ?_
  refine JI.aload_n hG 3 0 dL_law_627 rfl rfl ?_
  refine JI.iload_n hG 0 3 dL_law_628 rfl rfl ?_
  refine JI.iconst hG (Int32.ofInt 2) dL_law_629 rfl ?_
  refine JI.iaddI hG dL_law_630 ?_
  refine JI.sldI hG hS (by omega) (by omega) (by omega) dL_law_631 ?_
  refine JI.callW hG (as := [aI (zz xs (k + 1)), aI (zz xs (k + 2))]) (st := []) hx ok_X6_bestJump ml_L_77 rfl rfl rfl hadX (by intro v hv; simp only [List.mem_cons, List.not_mem_nil, or_false] at hv; rcases hv with rfl | rfl <;> exact okTo _) oa rfl (Nat.le_of_ble_eq_true rfl) ⟨Nat.le_of_ble_eq_true rfl, Nat.le_of_ble_eq_true rfl⟩ hcs dL_law_632 rfl (fun r a1 hp oa1 => ?_)
  obtain ⟨Pm, hm, hpost2⟩ := hpost r a1 hp
  refine JI.aload_n hG 1 2 dL_law_635 rfl rfl ?_
  refine JI.aload_n hG 3 0 dL_law_636 rfl rfl ?_
  refine JI.iload_n hG 0 3 dL_law_637 rfl rfl ?_
  refine JI.iconst hG (Int32.ofInt 1) dL_law_638 rfl ?_
  refine JI.iaddI hG dL_law_639 ?_
  refine JI.sldI hG hS (by omega) (by omega) (by omega) dL_law_640 ?_
  refine JI.aload_n hG 3 0 dL_law_641 rfl rfl ?_
  refine JI.iload_n hG 0 3 dL_law_642 rfl rfl ?_
  refine JI.iconst hG (Int32.ofInt 2) dL_law_643 rfl ?_
  refine JI.iaddI hG dL_law_644 ?_
  refine JI.sldI hG hS (by omega) (by omega) (by omega) dL_law_645 ?_
  refine JI.comm ?_
  refine JI.callW hG (as := [aI (zz xs (k + 1)), aI (zz xs (k + 2))]) (st := mcV adX r ++ []) hm ok_X7_bestJump ml_L_80 rfl rfl rfl hadM (by intro v hv; simp only [List.mem_cons, List.not_mem_nil, or_false] at hv; rcases hv with rfl | rfl <;> exact okTo _) ob rfl (mcV_len adX r [] (Nat.zero_le 3)) ⟨Nat.le_of_ble_eq_true rfl, Nat.le_of_ble_eq_true rfl⟩ hcs dL_law_646 rfl (fun r2 b1 hq ob1 => ?_)
  obtain ⟨v, rfl, rfl, hs⟩ := hpost2 r2 b1 hq
  refine JI.comm ?_
  show JI X 4 649 [(3, .int (Int32.ofInt k)), (2, .ref (adM 0)), (1, .ref (adX 0)), (0, .ref b0)] [.int (Int32.ofInt v), .int (Int32.ofInt v)] (wOf TM adM (cAX X) b1 ++ wOf TX adX (cAX X) a1) nc ns
  refine JI.icmp_eqT hG 1093 dL_law_649 rfl ?_
  exact kk a1 b1 hs oa1 ob1
set_option maxRecDepth 100000 in
set_option maxHeartbeats 4000000 in
theorem lc_16 {X : CxI} (hG : GI X RL cL_law 4 9 600000 7302250 342) {b0 Ln : Nat} {xs : Nat → Int32} (hS : Scr X b0 Ln xs) {nc ns : Nat} (hcs : nc ≤ 600000 ∧ ns ≤ 7302250) {adX adM : Nat → Nat} (hadX : ∀ i j, i < TX.length → j < TX.length → adX i = adX j → i = j) (hadM : ∀ i j, i < TM.length → j < TM.length → adM i = adM j → i = j) (k : Int) (hk : 0 ≤ k ∧ k + 5 ≤ Ln ∧ Ln ≤ 320) {a b : Mem} (h : Sim a b) (oa : okM a) (ob : okM b) (kk : ∀ a1 b1, Sim a1 b1 → okM a1 → okM b1 → JI X 4 1093 [(3, .int (Int32.ofInt k)), (2, .ref (adM 0)), (1, .ref (adX 0)), (0, .ref b0)] [] (wOf TM adM (cAX X) b1 ++ wOf TX adX (cAX X) a1) nc ns) : JI X 4 654 [(3, .int (Int32.ofInt k)), (2, .ref (adM 0)), (1, .ref (adX 0)), (0, .ref b0)] [] (wOf TM adM (cAX X) b ++ wOf TX adX (cAX X) a) nc ns := by
  obtain ⟨Px, hx, hpost⟩ := st_plans (zz xs (k + 1)) (zz xs (k + 2)) a b h
  refine JI.aload_n hG 2 1 dL_law_654 rfl rfl ?_
  refine JI.aload_n hG 3 0 dL_law_655 rfl rfl ?_
  refine JI.iload_n hG 0 3 dL_law_656 rfl rfl ?_
  refine JI.iconst hG (Int32.ofInt 1) dL_law_657 rfl ?_
  refine JI.iaddI hG dL_law_658 ?_
  refine JI.sldI hG hS (by omega) (by omega) (by omega) dL_law_659 ?_
  refine JI.aload_n hG 3 0 dL_law_660 rfl rfl ?_
  refine JI.iload_n hG 0 3 dL_law_661 rfl rfl ?_
  refine JI.iconst hG (Int32.ofInt 2) dL_law_662 rfl ?_
  refine JI.iaddI hG dL_law_663 ?_
  refine JI.sldI hG hS (by omega) (by omega) (by omega) dL_law_664 ?_
  refine JI.callW hG (as := [aI (zz xs (k + 1)), aI (zz xs (k + 2))]) (st := []) hx ok_X6_plans ml_L_81 rfl rfl rfl hadX (by intro v hv; simp only [List.mem_cons, List.not_mem_nil, or_false] at hv; rcases hv with rfl | rfl <;> exact okTo _) oa rfl (Nat.le_of_ble_eq_true rfl) ⟨Nat.le_of_ble_eq_true rfl, Nat.le_of_ble_eq_true rfl⟩ hcs dL_law_665 rfl (fun r a1 hp oa1 => ?_)
  obtain ⟨Pm, hm, hpost2⟩ := hpost r a1 hp
  refine JI.aload_n hG 1 2 dL_law_668 rfl rfl ?_
  refine JI.aload_n hG 3 0 dL_law_669 rfl rfl ?_
  refine JI.iload_n hG 0 3 dL_law_670 rfl rfl ?_
  refine JI.iconst hG (Int32.ofInt 1) dL_law_671 rfl ?_
  refine JI.iaddI hG dL_law_672 ?_
  refine JI.sldI hG hS (by omega) (by omega) (by omega) dL_law_673 ?_
  refine JI.aload_n hG 3 0 dL_law_674 rfl rfl ?_
  refine JI.iload_n hG 0 3 dL_law_675 rfl rfl ?_
  refine JI.iconst hG (Int32.ofInt 2) dL_law_676 rfl ?_
  refine JI.iaddI hG dL_law_677 ?_
  refine JI.sldI hG hS (by omega) (by omega) (by omega) dL_law_678 ?_
  refine JI.comm ?_
  refine JI.callW hG (as := [aI (zz xs (k + 1)), aI (zz xs (k + 2))]) (st := mcV adX r ++ []) hm ok_X7_plans ml_L_84 rfl rfl rfl hadM (by intro v hv; simp only [List.mem_cons, List.not_mem_nil, or_false] at hv; rcases hv with rfl | rfl <;> exact okTo _) ob rfl (mcV_len adX r [] (Nat.zero_le 3)) ⟨Nat.le_of_ble_eq_true rfl, Nat.le_of_ble_eq_true rfl⟩ hcs dL_law_679 rfl (fun r2 b1 hq ob1 => ?_)
  obtain ⟨v, rfl, rfl, hs⟩ := hpost2 r2 b1 hq
  refine JI.comm ?_
  show JI X 4 682 [(3, .int (Int32.ofInt k)), (2, .ref (adM 0)), (1, .ref (adX 0)), (0, .ref b0)] [.int (Int32.ofInt v), .int (Int32.ofInt v)] (wOf TM adM (cAX X) b1 ++ wOf TX adX (cAX X) a1) nc ns
  refine JI.icmp_eqT hG 1093 dL_law_682 rfl ?_
  exact kk a1 b1 hs oa1 ob1
set_option maxRecDepth 100000 in
set_option maxHeartbeats 4000000 in
theorem lc_17 {X : CxI} (hG : GI X RL cL_law 4 9 600000 7302250 342) {b0 Ln : Nat} {xs : Nat → Int32} (hS : Scr X b0 Ln xs) {nc ns : Nat} (hcs : nc ≤ 600000 ∧ ns ≤ 7302250) {adX adM : Nat → Nat} (hadX : ∀ i j, i < TX.length → j < TX.length → adX i = adX j → i = j) (hadM : ∀ i j, i < TM.length → j < TM.length → adM i = adM j → i = j) (k : Int) (hk : 0 ≤ k ∧ k + 5 ≤ Ln ∧ Ln ≤ 320) {a b : Mem} (h : Sim a b) (oa : okM a) (ob : okM b) (kk : ∀ a1 b1, Sim a1 b1 → okM a1 → okM b1 → JI X 4 1093 [(3, .int (Int32.ofInt k)), (2, .ref (adM 0)), (1, .ref (adX 0)), (0, .ref b0)] [] (wOf TM adM (cAX X) b1 ++ wOf TX adX (cAX X) a1) nc ns) : JI X 4 687 [(3, .int (Int32.ofInt k)), (2, .ref (adM 0)), (1, .ref (adX 0)), (0, .ref b0)] [] (wOf TM adM (cAX X) b ++ wOf TX adX (cAX X) a) nc ns := by
  obtain ⟨Px, hx, hpost⟩ := st_drop  a b h
  refine JI.aload_n hG 2 1 dL_law_687 rfl rfl ?_
  refine JI.callW hG (as := []) (st := []) hx ok_X6_drop ml_L_85 rfl rfl rfl hadX (fun v hv => absurd hv List.not_mem_nil) oa rfl (Nat.le_of_ble_eq_true rfl) ⟨Nat.le_of_ble_eq_true rfl, Nat.le_of_ble_eq_true rfl⟩ hcs dL_law_688 rfl (fun r a1 hp oa1 => ?_)
  obtain ⟨Pm, hm, hpost2⟩ := hpost r a1 hp
  refine JI.aload_n hG 1 2 dL_law_691 rfl rfl ?_
  refine JI.comm ?_
  refine JI.callW hG (as := []) (st := mcV adX r ++ []) hm ok_X7_drop ml_L_88 rfl rfl rfl hadM (fun v hv => absurd hv List.not_mem_nil) ob rfl (mcV_len adX r [] (Nat.zero_le 3)) ⟨Nat.le_of_ble_eq_true rfl, Nat.le_of_ble_eq_true rfl⟩ hcs dL_law_692 rfl (fun r2 b1 hq ob1 => ?_)
  obtain ⟨v, rfl, rfl, hs⟩ := hpost2 r2 b1 hq
  refine JI.comm ?_
  show JI X 4 695 [(3, .int (Int32.ofInt k)), (2, .ref (adM 0)), (1, .ref (adX 0)), (0, .ref b0)] [.int (Int32.ofInt v), .int (Int32.ofInt v)] (wOf TM adM (cAX X) b1 ++ wOf TX adX (cAX X) a1) nc ns
  refine JI.icmp_eqT hG 1093 dL_law_695 rfl ?_
  exact kk a1 b1 hs oa1 ob1
set_option maxRecDepth 100000 in
set_option maxHeartbeats 4000000 in
theorem lc_18 {X : CxI} (hG : GI X RL cL_law 4 9 600000 7302250 342) {b0 Ln : Nat} {xs : Nat → Int32} (hS : Scr X b0 Ln xs) {nc ns : Nat} (hcs : nc ≤ 600000 ∧ ns ≤ 7302250) {adX adM : Nat → Nat} (hadX : ∀ i j, i < TX.length → j < TX.length → adX i = adX j → i = j) (hadM : ∀ i j, i < TM.length → j < TM.length → adM i = adM j → i = j) (k : Int) (hk : 0 ≤ k ∧ k + 5 ≤ Ln ∧ Ln ≤ 320) {a b : Mem} (h : Sim a b) (oa : okM a) (ob : okM b) (kk : ∀ a1 b1, Sim a1 b1 → okM a1 → okM b1 → JI X 4 1093 [(3, .int (Int32.ofInt k)), (2, .ref (adM 0)), (1, .ref (adX 0)), (0, .ref b0)] [] (wOf TM adM (cAX X) b1 ++ wOf TX adX (cAX X) a1) nc ns) : JI X 4 700 [(3, .int (Int32.ofInt k)), (2, .ref (adM 0)), (1, .ref (adX 0)), (0, .ref b0)] [] (wOf TM adM (cAX X) b ++ wOf TX adX (cAX X) a) nc ns := by
  obtain ⟨Px, hx, hpost⟩ := st_orders (zz xs (k + 1)) (zz xs (k + 2)) a b h
  refine JI.aload_n hG 2 1 dL_law_700 rfl rfl ?_
  refine JI.aload_n hG 3 0 dL_law_701 rfl rfl ?_
  refine JI.iload_n hG 0 3 dL_law_702 rfl rfl ?_
  refine JI.iconst hG (Int32.ofInt 1) dL_law_703 rfl ?_
  refine JI.iaddI hG dL_law_704 ?_
  refine JI.sldI hG hS (by omega) (by omega) (by omega) dL_law_705 ?_
  refine JI.aload_n hG 3 0 dL_law_706 rfl rfl ?_
  refine JI.iload_n hG 0 3 dL_law_707 rfl rfl ?_
  refine JI.iconst hG (Int32.ofInt 2) dL_law_708 rfl ?_
  refine JI.iaddI hG dL_law_709 ?_
  refine JI.sldI hG hS (by omega) (by omega) (by omega) dL_law_710 ?_
  refine JI.callW hG (as := [aI (zz xs (k + 1)), aI (zz xs (k + 2))]) (st := []) hx ok_X6_orders ml_L_89 rfl rfl rfl hadX (by intro v hv; simp only [List.mem_cons, List.not_mem_nil, or_false] at hv; rcases hv with rfl | rfl <;> exact okTo _) oa rfl (Nat.le_of_ble_eq_true rfl) ⟨Nat.le_of_ble_eq_true rfl, Nat.le_of_ble_eq_true rfl⟩ hcs dL_law_711 rfl (fun r a1 hp oa1 => ?_)
  obtain ⟨Pm, hm, hpost2⟩ := hpost r a1 hp
  refine JI.aload_n hG 1 2 dL_law_714 rfl rfl ?_
  refine JI.aload_n hG 3 0 dL_law_715 rfl rfl ?_
  refine JI.iload_n hG 0 3 dL_law_716 rfl rfl ?_
  refine JI.iconst hG (Int32.ofInt 1) dL_law_717 rfl ?_
  refine JI.iaddI hG dL_law_718 ?_
  refine JI.sldI hG hS (by omega) (by omega) (by omega) dL_law_719 ?_
  refine JI.aload_n hG 3 0 dL_law_720 rfl rfl ?_
  refine JI.iload_n hG 0 3 dL_law_721 rfl rfl ?_
  refine JI.iconst hG (Int32.ofInt 2) dL_law_722 rfl ?_
  refine JI.iaddI hG dL_law_723 ?_
  refine JI.sldI hG hS (by omega) (by omega) (by omega) dL_law_724 ?_
  refine JI.comm ?_
  refine JI.callW hG (as := [aI (zz xs (k + 1)), aI (zz xs (k + 2))]) (st := mcV adX r ++ []) hm ok_X7_orders ml_L_92 rfl rfl rfl hadM (by intro v hv; simp only [List.mem_cons, List.not_mem_nil, or_false] at hv; rcases hv with rfl | rfl <;> exact okTo _) ob rfl (mcV_len adX r [] (Nat.zero_le 3)) ⟨Nat.le_of_ble_eq_true rfl, Nat.le_of_ble_eq_true rfl⟩ hcs dL_law_725 rfl (fun r2 b1 hq ob1 => ?_)
  obtain ⟨v, rfl, rfl, hs⟩ := hpost2 r2 b1 hq
  refine JI.comm ?_
  show JI X 4 728 [(3, .int (Int32.ofInt k)), (2, .ref (adM 0)), (1, .ref (adX 0)), (0, .ref b0)] [.int (Int32.ofInt v), .int (Int32.ofInt v)] (wOf TM adM (cAX X) b1 ++ wOf TX adX (cAX X) a1) nc ns
  refine JI.icmp_eqT hG 1093 dL_law_728 rfl ?_
  exact kk a1 b1 hs oa1 ob1
set_option maxRecDepth 100000 in
set_option maxHeartbeats 4000000 in
theorem lc_19 {X : CxI} (hG : GI X RL cL_law 4 9 600000 7302250 342) {b0 Ln : Nat} {xs : Nat → Int32} (hS : Scr X b0 Ln xs) {nc ns : Nat} (hcs : nc ≤ 600000 ∧ ns ≤ 7302250) {adX adM : Nat → Nat} (hadX : ∀ i j, i < TX.length → j < TX.length → adX i = adX j → i = j) (hadM : ∀ i j, i < TM.length → j < TM.length → adM i = adM j → i = j) (k : Int) (hk : 0 ≤ k ∧ k + 5 ≤ Ln ∧ Ln ≤ 320) {a b : Mem} (h : Sim a b) (oa : okM a) (ob : okM b) (kk : ∀ a1 b1, Sim a1 b1 → okM a1 → okM b1 → JI X 4 1093 [(3, .int (Int32.ofInt k)), (2, .ref (adM 0)), (1, .ref (adX 0)), (0, .ref b0)] [] (wOf TM adM (cAX X) b1 ++ wOf TX adX (cAX X) a1) nc ns) : JI X 4 733 [(3, .int (Int32.ofInt k)), (2, .ref (adM 0)), (1, .ref (adX 0)), (0, .ref b0)] [] (wOf TM adM (cAX X) b ++ wOf TX adX (cAX X) a) nc ns := by
  obtain ⟨Px, hx, hpost⟩ := st_bars (zz xs (k + 1)) a b h
  refine JI.aload_n hG 2 1 dL_law_733 rfl rfl ?_
  refine JI.aload_n hG 3 0 dL_law_734 rfl rfl ?_
  refine JI.iload_n hG 0 3 dL_law_735 rfl rfl ?_
  refine JI.iconst hG (Int32.ofInt 1) dL_law_736 rfl ?_
  refine JI.iaddI hG dL_law_737 ?_
  refine JI.sldI hG hS (by omega) (by omega) (by omega) dL_law_738 ?_
  refine JI.callW hG (as := [aI (zz xs (k + 1))]) (st := []) hx ok_X6_bars ml_L_93 rfl rfl rfl hadX (by intro v hv; simp only [List.mem_cons, List.not_mem_nil, or_false] at hv; rcases hv with rfl <;> exact okTo _) oa rfl (Nat.le_of_ble_eq_true rfl) ⟨Nat.le_of_ble_eq_true rfl, Nat.le_of_ble_eq_true rfl⟩ hcs dL_law_739 rfl (fun r a1 hp oa1 => ?_)
  obtain ⟨Pm, hm, hpost2⟩ := hpost r a1 hp
  refine JI.aload_n hG 1 2 dL_law_742 rfl rfl ?_
  refine JI.aload_n hG 3 0 dL_law_743 rfl rfl ?_
  refine JI.iload_n hG 0 3 dL_law_744 rfl rfl ?_
  refine JI.iconst hG (Int32.ofInt 1) dL_law_745 rfl ?_
  refine JI.iaddI hG dL_law_746 ?_
  refine JI.sldI hG hS (by omega) (by omega) (by omega) dL_law_747 ?_
  refine JI.comm ?_
  refine JI.callW hG (as := [aI (zz xs (k + 1))]) (st := mcV adX r ++ []) hm ok_X7_bars ml_L_96 rfl rfl rfl hadM (by intro v hv; simp only [List.mem_cons, List.not_mem_nil, or_false] at hv; rcases hv with rfl <;> exact okTo _) ob rfl (mcV_len adX r [] (Nat.zero_le 3)) ⟨Nat.le_of_ble_eq_true rfl, Nat.le_of_ble_eq_true rfl⟩ hcs dL_law_748 rfl (fun r2 b1 hq ob1 => ?_)
  obtain ⟨v, rfl, rfl, hs⟩ := hpost2 r2 b1 hq
  refine JI.comm ?_
  show JI X 4 751 [(3, .int (Int32.ofInt k)), (2, .ref (adM 0)), (1, .ref (adX 0)), (0, .ref b0)] [.int (Int32.ofInt v), .int (Int32.ofInt v)] (wOf TM adM (cAX X) b1 ++ wOf TX adX (cAX X) a1) nc ns
  refine JI.icmp_eqT hG 1093 dL_law_751 rfl ?_
  exact kk a1 b1 hs oa1 ob1
set_option maxRecDepth 100000 in
set_option maxHeartbeats 4000000 in
theorem lc_20 {X : CxI} (hG : GI X RL cL_law 4 9 600000 7302250 342) {b0 Ln : Nat} {xs : Nat → Int32} (hS : Scr X b0 Ln xs) {nc ns : Nat} (hcs : nc ≤ 600000 ∧ ns ≤ 7302250) {adX adM : Nat → Nat} (hadX : ∀ i j, i < TX.length → j < TX.length → adX i = adX j → i = j) (hadM : ∀ i j, i < TM.length → j < TM.length → adM i = adM j → i = j) (k : Int) (hk : 0 ≤ k ∧ k + 5 ≤ Ln ∧ Ln ≤ 320) {a b : Mem} (h : Sim a b) (oa : okM a) (ob : okM b) (kk : ∀ a1 b1, Sim a1 b1 → okM a1 → okM b1 → JI X 4 1093 [(3, .int (Int32.ofInt k)), (2, .ref (adM 0)), (1, .ref (adX 0)), (0, .ref b0)] [] (wOf TM adM (cAX X) b1 ++ wOf TX adX (cAX X) a1) nc ns) : JI X 4 756 [(3, .int (Int32.ofInt k)), (2, .ref (adM 0)), (1, .ref (adX 0)), (0, .ref b0)] [] (wOf TM adM (cAX X) b ++ wOf TX adX (cAX X) a) nc ns := by
  obtain ⟨Px, hx, hpost⟩ := st_trip (zz xs (k + 1)) (zz xs (k + 2)) (zz xs (k + 3)) (zz xs (k + 4)) a b h
  refine JI.aload_n hG 2 1 dL_law_756 rfl rfl ?_
  refine JI.aload_n hG 3 0 dL_law_757 rfl rfl ?_
  refine JI.iload_n hG 0 3 dL_law_758 rfl rfl ?_
  refine JI.iconst hG (Int32.ofInt 1) dL_law_759 rfl ?_
  refine JI.iaddI hG dL_law_760 ?_
  refine JI.sldI hG hS (by omega) (by omega) (by omega) dL_law_761 ?_
  refine JI.aload_n hG 3 0 dL_law_762 rfl rfl ?_
  refine JI.iload_n hG 0 3 dL_law_763 rfl rfl ?_
  refine JI.iconst hG (Int32.ofInt 2) dL_law_764 rfl ?_
  refine JI.iaddI hG dL_law_765 ?_
  refine JI.sldI hG hS (by omega) (by omega) (by omega) dL_law_766 ?_
  refine JI.aload_n hG 3 0 dL_law_767 rfl rfl ?_
  refine JI.iload_n hG 0 3 dL_law_768 rfl rfl ?_
  refine JI.iconst hG (Int32.ofInt 3) dL_law_769 rfl ?_
  refine JI.iaddI hG dL_law_770 ?_
  refine JI.sldI hG hS (by omega) (by omega) (by omega) dL_law_771 ?_
  refine JI.aload_n hG 3 0 dL_law_772 rfl rfl ?_
  refine JI.iload_n hG 0 3 dL_law_773 rfl rfl ?_
  refine JI.iconst hG (Int32.ofInt 4) dL_law_774 rfl ?_
  refine JI.iaddI hG dL_law_775 ?_
  refine JI.sldI hG hS (by omega) (by omega) (by omega) dL_law_776 ?_
  refine JI.callW hG (as := [aI (zz xs (k + 1)), aI (zz xs (k + 2)), aI (zz xs (k + 3)), aI (zz xs (k + 4))]) (st := []) hx ok_X6_trip ml_L_97 rfl rfl rfl hadX (by intro v hv; simp only [List.mem_cons, List.not_mem_nil, or_false] at hv; rcases hv with rfl | rfl | rfl | rfl <;> exact okTo _) oa rfl (Nat.le_of_ble_eq_true rfl) ⟨Nat.le_of_ble_eq_true rfl, Nat.le_of_ble_eq_true rfl⟩ hcs dL_law_777 rfl (fun r a1 hp oa1 => ?_)
  obtain ⟨Pm, hm, hpost2⟩ := hpost r a1 hp
  refine JI.aload_n hG 1 2 dL_law_780 rfl rfl ?_
  refine JI.aload_n hG 3 0 dL_law_781 rfl rfl ?_
  refine JI.iload_n hG 0 3 dL_law_782 rfl rfl ?_
  refine JI.iconst hG (Int32.ofInt 1) dL_law_783 rfl ?_
  refine JI.iaddI hG dL_law_784 ?_
  refine JI.sldI hG hS (by omega) (by omega) (by omega) dL_law_785 ?_
  refine JI.aload_n hG 3 0 dL_law_786 rfl rfl ?_
  refine JI.iload_n hG 0 3 dL_law_787 rfl rfl ?_
  refine JI.iconst hG (Int32.ofInt 2) dL_law_788 rfl ?_
  refine JI.iaddI hG dL_law_789 ?_
  refine JI.sldI hG hS (by omega) (by omega) (by omega) dL_law_790 ?_
  refine JI.aload_n hG 3 0 dL_law_791 rfl rfl ?_
  refine JI.iload_n hG 0 3 dL_law_792 rfl rfl ?_
  refine JI.iconst hG (Int32.ofInt 3) dL_law_793 rfl ?_
  refine JI.iaddI hG dL_law_794 ?_
  refine JI.sldI hG hS (by omega) (by omega) (by omega) dL_law_795 ?_
  refine JI.aload_n hG 3 0 dL_law_796 rfl rfl ?_
  refine JI.iload_n hG 0 3 dL_law_797 rfl rfl ?_
  refine JI.iconst hG (Int32.ofInt 4) dL_law_798 rfl ?_
  refine JI.iaddI hG dL_law_799 ?_
  refine JI.sldI hG hS (by omega) (by omega) (by omega) dL_law_800 ?_
  refine JI.comm ?_
  refine JI.callW hG (as := [aI (zz xs (k + 1)), aI (zz xs (k + 2)), aI (zz xs (k + 3)), aI (zz xs (k + 4))]) (st := mcV adX r ++ []) hm ok_X7_trip ml_L_101 rfl rfl rfl hadM (by intro v hv; simp only [List.mem_cons, List.not_mem_nil, or_false] at hv; rcases hv with rfl | rfl | rfl | rfl <;> exact okTo _) ob rfl (mcV_len adX r [] (Nat.zero_le 3)) ⟨Nat.le_of_ble_eq_true rfl, Nat.le_of_ble_eq_true rfl⟩ hcs dL_law_801 rfl (fun r2 b1 hq ob1 => ?_)
  obtain ⟨v, rfl, rfl, hs⟩ := hpost2 r2 b1 hq
  refine JI.comm ?_
  show JI X 4 804 [(3, .int (Int32.ofInt k)), (2, .ref (adM 0)), (1, .ref (adX 0)), (0, .ref b0)] [.int (Int32.ofInt v), .int (Int32.ofInt v)] (wOf TM adM (cAX X) b1 ++ wOf TX adX (cAX X) a1) nc ns
  refine JI.icmp_eqT hG 1093 dL_law_804 rfl ?_
  exact kk a1 b1 hs oa1 ob1
set_option maxRecDepth 100000 in
set_option maxHeartbeats 4000000 in
theorem lc_21 {X : CxI} (hG : GI X RL cL_law 4 9 600000 7302250 342) {b0 Ln : Nat} {xs : Nat → Int32} (hS : Scr X b0 Ln xs) {nc ns : Nat} (hcs : nc ≤ 600000 ∧ ns ≤ 7302250) {adX adM : Nat → Nat} (hadX : ∀ i j, i < TX.length → j < TX.length → adX i = adX j → i = j) (hadM : ∀ i j, i < TM.length → j < TM.length → adM i = adM j → i = j) (k : Int) (hk : 0 ≤ k ∧ k + 5 ≤ Ln ∧ Ln ≤ 320) {a b : Mem} (h : Sim a b) (oa : okM a) (ob : okM b) (kk : ∀ a1 b1, Sim a1 b1 → okM a1 → okM b1 → JI X 4 1093 [(3, .int (Int32.ofInt k)), (2, .ref (adM 0)), (1, .ref (adX 0)), (0, .ref b0)] [] (wOf TM adM (cAX X) b1 ++ wOf TX adX (cAX X) a1) nc ns) : JI X 4 809 [(3, .int (Int32.ofInt k)), (2, .ref (adM 0)), (1, .ref (adX 0)), (0, .ref b0)] [] (wOf TM adM (cAX X) b ++ wOf TX adX (cAX X) a) nc ns := by
  obtain ⟨Px, hx, hpost⟩ := st_parts (zz xs (k + 1)) (zz xs (k + 2)) (zz xs (k + 3)) a b h
  refine JI.aload_n hG 2 1 dL_law_809 rfl rfl ?_
  refine JI.aload_n hG 3 0 dL_law_810 rfl rfl ?_
  refine JI.iload_n hG 0 3 dL_law_811 rfl rfl ?_
  refine JI.iconst hG (Int32.ofInt 1) dL_law_812 rfl ?_
  refine JI.iaddI hG dL_law_813 ?_
  refine JI.sldI hG hS (by omega) (by omega) (by omega) dL_law_814 ?_
  refine JI.aload_n hG 3 0 dL_law_815 rfl rfl ?_
  refine JI.iload_n hG 0 3 dL_law_816 rfl rfl ?_
  refine JI.iconst hG (Int32.ofInt 2) dL_law_817 rfl ?_
  refine JI.iaddI hG dL_law_818 ?_
  refine JI.sldI hG hS (by omega) (by omega) (by omega) dL_law_819 ?_
  refine JI.aload_n hG 3 0 dL_law_820 rfl rfl ?_
  refine JI.iload_n hG 0 3 dL_law_821 rfl rfl ?_
  refine JI.iconst hG (Int32.ofInt 3) dL_law_822 rfl ?_
  refine JI.iaddI hG dL_law_823 ?_
  refine JI.sldI hG hS (by omega) (by omega) (by omega) dL_law_824 ?_
  refine JI.callW hG (as := [aI (zz xs (k + 1)), aI (zz xs (k + 2)), aI (zz xs (k + 3))]) (st := []) hx ok_X6_parts ml_L_102 rfl rfl rfl hadX (by intro v hv; simp only [List.mem_cons, List.not_mem_nil, or_false] at hv; rcases hv with rfl | rfl | rfl <;> exact okTo _) oa rfl (Nat.le_of_ble_eq_true rfl) ⟨Nat.le_of_ble_eq_true rfl, Nat.le_of_ble_eq_true rfl⟩ hcs dL_law_825 rfl (fun r a1 hp oa1 => ?_)
  obtain ⟨Pm, hm, hpost2⟩ := hpost r a1 hp
  refine JI.aload_n hG 1 2 dL_law_828 rfl rfl ?_
  refine JI.aload_n hG 3 0 dL_law_829 rfl rfl ?_
  refine JI.iload_n hG 0 3 dL_law_830 rfl rfl ?_
  refine JI.iconst hG (Int32.ofInt 1) dL_law_831 rfl ?_
  refine JI.iaddI hG dL_law_832 ?_
  refine JI.sldI hG hS (by omega) (by omega) (by omega) dL_law_833 ?_
  refine JI.aload_n hG 3 0 dL_law_834 rfl rfl ?_
  refine JI.iload_n hG 0 3 dL_law_835 rfl rfl ?_
  refine JI.iconst hG (Int32.ofInt 2) dL_law_836 rfl ?_
  refine JI.iaddI hG dL_law_837 ?_
  refine JI.sldI hG hS (by omega) (by omega) (by omega) dL_law_838 ?_
  refine JI.aload_n hG 3 0 dL_law_839 rfl rfl ?_
  refine JI.iload_n hG 0 3 dL_law_840 rfl rfl ?_
  refine JI.iconst hG (Int32.ofInt 3) dL_law_841 rfl ?_
  refine JI.iaddI hG dL_law_842 ?_
  refine JI.sldI hG hS (by omega) (by omega) (by omega) dL_law_843 ?_
  refine JI.comm ?_
  refine JI.callW hG (as := [aI (zz xs (k + 1)), aI (zz xs (k + 2)), aI (zz xs (k + 3))]) (st := mcV adX r ++ []) hm ok_X7_parts ml_L_105 rfl rfl rfl hadM (by intro v hv; simp only [List.mem_cons, List.not_mem_nil, or_false] at hv; rcases hv with rfl | rfl | rfl <;> exact okTo _) ob rfl (mcV_len adX r [] (Nat.zero_le 3)) ⟨Nat.le_of_ble_eq_true rfl, Nat.le_of_ble_eq_true rfl⟩ hcs dL_law_844 rfl (fun r2 b1 hq ob1 => ?_)
  obtain ⟨v, rfl, rfl, hs⟩ := hpost2 r2 b1 hq
  refine JI.comm ?_
  show JI X 4 847 [(3, .int (Int32.ofInt k)), (2, .ref (adM 0)), (1, .ref (adX 0)), (0, .ref b0)] [.int (Int32.ofInt v), .int (Int32.ofInt v)] (wOf TM adM (cAX X) b1 ++ wOf TX adX (cAX X) a1) nc ns
  refine JI.icmp_eqT hG 1093 dL_law_847 rfl ?_
  exact kk a1 b1 hs oa1 ob1
set_option maxRecDepth 100000 in
set_option maxHeartbeats 4000000 in
theorem lc_22 {X : CxI} (hG : GI X RL cL_law 4 9 600000 7302250 342) {b0 Ln : Nat} {xs : Nat → Int32} (hS : Scr X b0 Ln xs) {nc ns : Nat} (hcs : nc ≤ 600000 ∧ ns ≤ 7302250) {adX adM : Nat → Nat} (hadX : ∀ i j, i < TX.length → j < TX.length → adX i = adX j → i = j) (hadM : ∀ i j, i < TM.length → j < TM.length → adM i = adM j → i = j) (k : Int) (hk : 0 ≤ k ∧ k + 5 ≤ Ln ∧ Ln ≤ 320) {a b : Mem} (h : Sim a b) (oa : okM a) (ob : okM b) (kk : ∀ a1 b1, Sim a1 b1 → okM a1 → okM b1 → JI X 4 1093 [(3, .int (Int32.ofInt k)), (2, .ref (adM 0)), (1, .ref (adX 0)), (0, .ref b0)] [] (wOf TM adM (cAX X) b1 ++ wOf TX adX (cAX X) a1) nc ns) : JI X 4 852 [(3, .int (Int32.ofInt k)), (2, .ref (adM 0)), (1, .ref (adX 0)), (0, .ref b0)] [] (wOf TM adM (cAX X) b ++ wOf TX adX (cAX X) a) nc ns := by
  obtain ⟨Px, hx, hpost⟩ := st_books (zz xs (k + 1)) (zz xs (k + 2)) (zz xs (k + 3)) a b h
  refine JI.aload_n hG 2 1 dL_law_852 rfl rfl ?_
  refine JI.aload_n hG 3 0 dL_law_853 rfl rfl ?_
  refine JI.iload_n hG 0 3 dL_law_854 rfl rfl ?_
  refine JI.iconst hG (Int32.ofInt 1) dL_law_855 rfl ?_
  refine JI.iaddI hG dL_law_856 ?_
  refine JI.sldI hG hS (by omega) (by omega) (by omega) dL_law_857 ?_
  refine JI.aload_n hG 3 0 dL_law_858 rfl rfl ?_
  refine JI.iload_n hG 0 3 dL_law_859 rfl rfl ?_
  refine JI.iconst hG (Int32.ofInt 2) dL_law_860 rfl ?_
  refine JI.iaddI hG dL_law_861 ?_
  refine JI.sldI hG hS (by omega) (by omega) (by omega) dL_law_862 ?_
  refine JI.aload_n hG 3 0 dL_law_863 rfl rfl ?_
  refine JI.iload_n hG 0 3 dL_law_864 rfl rfl ?_
  refine JI.iconst hG (Int32.ofInt 3) dL_law_865 rfl ?_
  refine JI.iaddI hG dL_law_866 ?_
  refine JI.sldI hG hS (by omega) (by omega) (by omega) dL_law_867 ?_
  refine JI.callW hG (as := [aI (zz xs (k + 1)), aI (zz xs (k + 2)), aI (zz xs (k + 3))]) (st := []) hx ok_X6_books ml_L_106 rfl rfl rfl hadX (by intro v hv; simp only [List.mem_cons, List.not_mem_nil, or_false] at hv; rcases hv with rfl | rfl | rfl <;> exact okTo _) oa rfl (Nat.le_of_ble_eq_true rfl) ⟨Nat.le_of_ble_eq_true rfl, Nat.le_of_ble_eq_true rfl⟩ hcs dL_law_868 rfl (fun r a1 hp oa1 => ?_)
  obtain ⟨Pm, hm, hpost2⟩ := hpost r a1 hp
  refine JI.aload_n hG 1 2 dL_law_871 rfl rfl ?_
  refine JI.aload_n hG 3 0 dL_law_872 rfl rfl ?_
  refine JI.iload_n hG 0 3 dL_law_873 rfl rfl ?_
  refine JI.iconst hG (Int32.ofInt 1) dL_law_874 rfl ?_
  refine JI.iaddI hG dL_law_875 ?_
  refine JI.sldI hG hS (by omega) (by omega) (by omega) dL_law_876 ?_
  refine JI.aload_n hG 3 0 dL_law_877 rfl rfl ?_
  refine JI.iload_n hG 0 3 dL_law_878 rfl rfl ?_
  refine JI.iconst hG (Int32.ofInt 2) dL_law_879 rfl ?_
  refine JI.iaddI hG dL_law_880 ?_
  refine JI.sldI hG hS (by omega) (by omega) (by omega) dL_law_881 ?_
  refine JI.aload_n hG 3 0 dL_law_882 rfl rfl ?_
  refine JI.iload_n hG 0 3 dL_law_883 rfl rfl ?_
  refine JI.iconst hG (Int32.ofInt 3) dL_law_884 rfl ?_
  refine JI.iaddI hG dL_law_885 ?_
  refine JI.sldI hG hS (by omega) (by omega) (by omega) dL_law_886 ?_
  refine JI.comm ?_
  refine JI.callW hG (as := [aI (zz xs (k + 1)), aI (zz xs (k + 2)), aI (zz xs (k + 3))]) (st := mcV adX r ++ []) hm ok_X7_books ml_L_109 rfl rfl rfl hadM (by intro v hv; simp only [List.mem_cons, List.not_mem_nil, or_false] at hv; rcases hv with rfl | rfl | rfl <;> exact okTo _) ob rfl (mcV_len adX r [] (Nat.zero_le 3)) ⟨Nat.le_of_ble_eq_true rfl, Nat.le_of_ble_eq_true rfl⟩ hcs dL_law_887 rfl (fun r2 b1 hq ob1 => ?_)
  obtain ⟨v, rfl, rfl, hs⟩ := hpost2 r2 b1 hq
  refine JI.comm ?_
  show JI X 4 890 [(3, .int (Int32.ofInt k)), (2, .ref (adM 0)), (1, .ref (adX 0)), (0, .ref b0)] [.int (Int32.ofInt v), .int (Int32.ofInt v)] (wOf TM adM (cAX X) b1 ++ wOf TX adX (cAX X) a1) nc ns
  refine JI.icmp_eqT hG 1093 dL_law_890 rfl ?_
  exact kk a1 b1 hs oa1 ob1
set_option maxRecDepth 100000 in
set_option maxHeartbeats 4000000 in
theorem lc_23 {X : CxI} (hG : GI X RL cL_law 4 9 600000 7302250 342) {b0 Ln : Nat} {xs : Nat → Int32} (hS : Scr X b0 Ln xs) {nc ns : Nat} (hcs : nc ≤ 600000 ∧ ns ≤ 7302250) {adX adM : Nat → Nat} (hadX : ∀ i j, i < TX.length → j < TX.length → adX i = adX j → i = j) (hadM : ∀ i j, i < TM.length → j < TM.length → adM i = adM j → i = j) (k : Int) (hk : 0 ≤ k ∧ k + 5 ≤ Ln ∧ Ln ≤ 320) {a b : Mem} (h : Sim a b) (oa : okM a) (ob : okM b) (kk : ∀ a1 b1, Sim a1 b1 → okM a1 → okM b1 → JI X 4 1093 [(3, .int (Int32.ofInt k)), (2, .ref (adM 0)), (1, .ref (adX 0)), (0, .ref b0)] [] (wOf TM adM (cAX X) b1 ++ wOf TX adX (cAX X) a1) nc ns) : JI X 4 895 [(3, .int (Int32.ofInt k)), (2, .ref (adM 0)), (1, .ref (adX 0)), (0, .ref b0)] [] (wOf TM adM (cAX X) b ++ wOf TX adX (cAX X) a) nc ns := by
  obtain ⟨Px, hx, hpost⟩ := st_burn  a b h
  refine JI.aload_n hG 2 1 dL_law_895 rfl rfl ?_
  refine JI.callW hG (as := []) (st := []) hx ok_X6_burn ml_L_110 rfl rfl rfl hadX (fun v hv => absurd hv List.not_mem_nil) oa rfl (Nat.le_of_ble_eq_true rfl) ⟨Nat.le_of_ble_eq_true rfl, Nat.le_of_ble_eq_true rfl⟩ hcs dL_law_896 rfl (fun r a1 hp oa1 => ?_)
  obtain ⟨Pm, hm, hpost2⟩ := hpost r a1 hp
  refine JI.aload_n hG 1 2 dL_law_899 rfl rfl ?_
  refine JI.comm ?_
  refine JI.callW hG (as := []) (st := mcV adX r ++ []) hm ok_X7_burn ml_L_113 rfl rfl rfl hadM (fun v hv => absurd hv List.not_mem_nil) ob rfl (mcV_len adX r [] (Nat.zero_le 3)) ⟨Nat.le_of_ble_eq_true rfl, Nat.le_of_ble_eq_true rfl⟩ hcs dL_law_900 rfl (fun r2 b1 hq ob1 => ?_)
  obtain ⟨v, rfl, rfl, hs⟩ := hpost2 r2 b1 hq
  refine JI.comm ?_
  show JI X 4 903 [(3, .int (Int32.ofInt k)), (2, .ref (adM 0)), (1, .ref (adX 0)), (0, .ref b0)] [.int (Int32.ofInt v), .int (Int32.ofInt v)] (wOf TM adM (cAX X) b1 ++ wOf TX adX (cAX X) a1) nc ns
  refine JI.icmp_eqT hG 1093 dL_law_903 rfl ?_
  exact kk a1 b1 hs oa1 ob1
set_option maxRecDepth 100000 in
set_option maxHeartbeats 4000000 in
theorem lc_24 {X : CxI} (hG : GI X RL cL_law 4 9 600000 7302250 342) {b0 Ln : Nat} {xs : Nat → Int32} (hS : Scr X b0 Ln xs) {nc ns : Nat} (hcs : nc ≤ 600000 ∧ ns ≤ 7302250) {adX adM : Nat → Nat} (hadX : ∀ i j, i < TX.length → j < TX.length → adX i = adX j → i = j) (hadM : ∀ i j, i < TM.length → j < TM.length → adM i = adM j → i = j) (k : Int) (hk : 0 ≤ k ∧ k + 5 ≤ Ln ∧ Ln ≤ 320) {a b : Mem} (h : Sim a b) (oa : okM a) (ob : okM b) (kk : ∀ a1 b1, Sim a1 b1 → okM a1 → okM b1 → JI X 4 1093 [(3, .int (Int32.ofInt k)), (2, .ref (adM 0)), (1, .ref (adX 0)), (0, .ref b0)] [] (wOf TM adM (cAX X) b1 ++ wOf TX adX (cAX X) a1) nc ns) : JI X 4 908 [(3, .int (Int32.ofInt k)), (2, .ref (adM 0)), (1, .ref (adX 0)), (0, .ref b0)] [] (wOf TM adM (cAX X) b ++ wOf TX adX (cAX X) a) nc ns := by
  obtain ⟨Px, hx, hpost⟩ := st_fits (zz xs (k + 1)) a b h
  refine JI.aload_n hG 2 1 dL_law_908 rfl rfl ?_
  refine JI.aload_n hG 3 0 dL_law_909 rfl rfl ?_
  refine JI.iload_n hG 0 3 dL_law_910 rfl rfl ?_
  refine JI.iconst hG (Int32.ofInt 1) dL_law_911 rfl ?_
  refine JI.iaddI hG dL_law_912 ?_
  refine JI.sldI hG hS (by omega) (by omega) (by omega) dL_law_913 ?_
  refine JI.callW hG (as := [aI (zz xs (k + 1))]) (st := []) hx ok_X6_fits ml_L_114 rfl rfl rfl hadX (by intro v hv; simp only [List.mem_cons, List.not_mem_nil, or_false] at hv; rcases hv with rfl <;> exact okTo _) oa rfl (Nat.le_of_ble_eq_true rfl) ⟨Nat.le_of_ble_eq_true rfl, Nat.le_of_ble_eq_true rfl⟩ hcs dL_law_914 rfl (fun r a1 hp oa1 => ?_)
  obtain ⟨Pm, hm, hpost2⟩ := hpost r a1 hp
  refine JI.aload_n hG 1 2 dL_law_917 rfl rfl ?_
  refine JI.aload_n hG 3 0 dL_law_918 rfl rfl ?_
  refine JI.iload_n hG 0 3 dL_law_919 rfl rfl ?_
  refine JI.iconst hG (Int32.ofInt 1) dL_law_920 rfl ?_
  refine JI.iaddI hG dL_law_921 ?_
  refine JI.sldI hG hS (by omega) (by omega) (by omega) dL_law_922 ?_
  refine JI.comm ?_
  refine JI.callW hG (as := [aI (zz xs (k + 1))]) (st := mcV adX r ++ []) hm ok_X7_fits ml_L_117 rfl rfl rfl hadM (by intro v hv; simp only [List.mem_cons, List.not_mem_nil, or_false] at hv; rcases hv with rfl <;> exact okTo _) ob rfl (mcV_len adX r [] (Nat.zero_le 3)) ⟨Nat.le_of_ble_eq_true rfl, Nat.le_of_ble_eq_true rfl⟩ hcs dL_law_923 rfl (fun r2 b1 hq ob1 => ?_)
  obtain ⟨v, rfl, rfl, hs⟩ := hpost2 r2 b1 hq
  refine JI.comm ?_
  show JI X 4 926 [(3, .int (Int32.ofInt k)), (2, .ref (adM 0)), (1, .ref (adX 0)), (0, .ref b0)] [.int (Int32.ofInt v), .int (Int32.ofInt v)] (wOf TM adM (cAX X) b1 ++ wOf TX adX (cAX X) a1) nc ns
  refine JI.icmp_eqT hG 1093 dL_law_926 rfl ?_
  exact kk a1 b1 hs oa1 ob1
set_option maxRecDepth 100000 in
set_option maxHeartbeats 4000000 in
theorem lc_25 {X : CxI} (hG : GI X RL cL_law 4 9 600000 7302250 342) {b0 Ln : Nat} {xs : Nat → Int32} (hS : Scr X b0 Ln xs) {nc ns : Nat} (hcs : nc ≤ 600000 ∧ ns ≤ 7302250) {adX adM : Nat → Nat} (hadX : ∀ i j, i < TX.length → j < TX.length → adX i = adX j → i = j) (hadM : ∀ i j, i < TM.length → j < TM.length → adM i = adM j → i = j) (k : Int) (hk : 0 ≤ k ∧ k + 5 ≤ Ln ∧ Ln ≤ 320) {a b : Mem} (h : Sim a b) (oa : okM a) (ob : okM b) (kk : ∀ a1 b1, Sim a1 b1 → okM a1 → okM b1 → JI X 4 1093 [(3, .int (Int32.ofInt k)), (2, .ref (adM 0)), (1, .ref (adX 0)), (0, .ref b0)] [] (wOf TM adM (cAX X) b1 ++ wOf TX adX (cAX X) a1) nc ns) : JI X 4 931 [(3, .int (Int32.ofInt k)), (2, .ref (adM 0)), (1, .ref (adX 0)), (0, .ref b0)] [] (wOf TM adM (cAX X) b ++ wOf TX adX (cAX X) a) nc ns := by
  obtain ⟨Px, hx, hpost⟩ := st_sure (zz xs (k + 1)) (zz xs (k + 2)) a b h
  refine JI.aload_n hG 2 1 dL_law_931 rfl rfl ?_
  refine JI.aload_n hG 3 0 dL_law_932 rfl rfl ?_
  refine JI.iload_n hG 0 3 dL_law_933 rfl rfl ?_
  refine JI.iconst hG (Int32.ofInt 1) dL_law_934 rfl ?_
  refine JI.iaddI hG dL_law_935 ?_
  refine JI.sldI hG hS (by omega) (by omega) (by omega) dL_law_936 ?_
  refine JI.aload_n hG 3 0 dL_law_937 rfl rfl ?_
  refine JI.iload_n hG 0 3 dL_law_938 rfl rfl ?_
  refine JI.iconst hG (Int32.ofInt 2) dL_law_939 rfl ?_
  refine JI.iaddI hG dL_law_940 ?_
  refine JI.sldI hG hS (by omega) (by omega) (by omega) dL_law_941 ?_
  refine JI.callW hG (as := [aI (zz xs (k + 1)), aI (zz xs (k + 2))]) (st := []) hx ok_X6_sure ml_L_118 rfl rfl rfl hadX (by intro v hv; simp only [List.mem_cons, List.not_mem_nil, or_false] at hv; rcases hv with rfl | rfl <;> exact okTo _) oa rfl (Nat.le_of_ble_eq_true rfl) ⟨Nat.le_of_ble_eq_true rfl, Nat.le_of_ble_eq_true rfl⟩ hcs dL_law_942 rfl (fun r a1 hp oa1 => ?_)
  obtain ⟨Pm, hm, hpost2⟩ := hpost r a1 hp
  refine JI.aload_n hG 1 2 dL_law_945 rfl rfl ?_
  refine JI.aload_n hG 3 0 dL_law_946 rfl rfl ?_
  refine JI.iload_n hG 0 3 dL_law_947 rfl rfl ?_
  refine JI.iconst hG (Int32.ofInt 1) dL_law_948 rfl ?_
  refine JI.iaddI hG dL_law_949 ?_
  refine JI.sldI hG hS (by omega) (by omega) (by omega) dL_law_950 ?_
  refine JI.aload_n hG 3 0 dL_law_951 rfl rfl ?_
  refine JI.iload_n hG 0 3 dL_law_952 rfl rfl ?_
  refine JI.iconst hG (Int32.ofInt 2) dL_law_953 rfl ?_
  refine JI.iaddI hG dL_law_954 ?_
  refine JI.sldI hG hS (by omega) (by omega) (by omega) dL_law_955 ?_
  refine JI.comm ?_
  refine JI.callW hG (as := [aI (zz xs (k + 1)), aI (zz xs (k + 2))]) (st := mcV adX r ++ []) hm ok_X7_sure ml_L_121 rfl rfl rfl hadM (by intro v hv; simp only [List.mem_cons, List.not_mem_nil, or_false] at hv; rcases hv with rfl | rfl <;> exact okTo _) ob rfl (mcV_len adX r [] (Nat.zero_le 3)) ⟨Nat.le_of_ble_eq_true rfl, Nat.le_of_ble_eq_true rfl⟩ hcs dL_law_956 rfl (fun r2 b1 hq ob1 => ?_)
  obtain ⟨v, rfl, rfl, hs⟩ := hpost2 r2 b1 hq
  refine JI.comm ?_
  show JI X 4 959 [(3, .int (Int32.ofInt k)), (2, .ref (adM 0)), (1, .ref (adX 0)), (0, .ref b0)] [.int (Int32.ofInt v), .int (Int32.ofInt v)] (wOf TM adM (cAX X) b1 ++ wOf TX adX (cAX X) a1) nc ns
  refine JI.icmp_eqT hG 1093 dL_law_959 rfl ?_
  exact kk a1 b1 hs oa1 ob1
set_option maxRecDepth 100000 in
set_option maxHeartbeats 4000000 in
theorem lc_26 {X : CxI} (hG : GI X RL cL_law 4 9 600000 7302250 342) {b0 Ln : Nat} {xs : Nat → Int32} (hS : Scr X b0 Ln xs) {nc ns : Nat} (hcs : nc ≤ 600000 ∧ ns ≤ 7302250) {adX adM : Nat → Nat} (hadX : ∀ i j, i < TX.length → j < TX.length → adX i = adX j → i = j) (hadM : ∀ i j, i < TM.length → j < TM.length → adM i = adM j → i = j) (k : Int) (hk : 0 ≤ k ∧ k + 5 ≤ Ln ∧ Ln ≤ 320) {a b : Mem} (h : Sim a b) (oa : okM a) (ob : okM b) (kk : ∀ a1 b1, Sim a1 b1 → okM a1 → okM b1 → JI X 4 1093 [(3, .int (Int32.ofInt k)), (2, .ref (adM 0)), (1, .ref (adX 0)), (0, .ref b0)] [] (wOf TM adM (cAX X) b1 ++ wOf TX adX (cAX X) a1) nc ns) : JI X 4 964 [(3, .int (Int32.ofInt k)), (2, .ref (adM 0)), (1, .ref (adX 0)), (0, .ref b0)] [] (wOf TM adM (cAX X) b ++ wOf TX adX (cAX X) a) nc ns := by
  obtain ⟨Px, hx, hpost⟩ := st_clash  a b h
  refine JI.aload_n hG 2 1 dL_law_964 rfl rfl ?_
  refine JI.callW hG (as := []) (st := []) hx ok_X6_clash ml_L_122 rfl rfl rfl hadX (fun v hv => absurd hv List.not_mem_nil) oa rfl (Nat.le_of_ble_eq_true rfl) ⟨Nat.le_of_ble_eq_true rfl, Nat.le_of_ble_eq_true rfl⟩ hcs dL_law_965 rfl (fun r a1 hp oa1 => ?_)
  obtain ⟨Pm, hm, hpost2⟩ := hpost r a1 hp
  refine JI.aload_n hG 1 2 dL_law_968 rfl rfl ?_
  refine JI.comm ?_
  refine JI.callW hG (as := []) (st := mcV adX r ++ []) hm ok_X7_clash ml_L_125 rfl rfl rfl hadM (fun v hv => absurd hv List.not_mem_nil) ob rfl (mcV_len adX r [] (Nat.zero_le 3)) ⟨Nat.le_of_ble_eq_true rfl, Nat.le_of_ble_eq_true rfl⟩ hcs dL_law_969 rfl (fun r2 b1 hq ob1 => ?_)
  obtain ⟨v, rfl, rfl, hs⟩ := hpost2 r2 b1 hq
  refine JI.comm ?_
  show JI X 4 972 [(3, .int (Int32.ofInt k)), (2, .ref (adM 0)), (1, .ref (adX 0)), (0, .ref b0)] [.int (Int32.ofInt v), .int (Int32.ofInt v)] (wOf TM adM (cAX X) b1 ++ wOf TX adX (cAX X) a1) nc ns
  refine JI.icmp_eqT hG 1093 dL_law_972 rfl ?_
  exact kk a1 b1 hs oa1 ob1
set_option maxRecDepth 100000 in
set_option maxHeartbeats 4000000 in
theorem lc_27 {X : CxI} (hG : GI X RL cL_law 4 9 600000 7302250 342) {b0 Ln : Nat} {xs : Nat → Int32} (hS : Scr X b0 Ln xs) {nc ns : Nat} (hcs : nc ≤ 600000 ∧ ns ≤ 7302250) {adX adM : Nat → Nat} (hadX : ∀ i j, i < TX.length → j < TX.length → adX i = adX j → i = j) (hadM : ∀ i j, i < TM.length → j < TM.length → adM i = adM j → i = j) (k : Int) (hk : 0 ≤ k ∧ k + 5 ≤ Ln ∧ Ln ≤ 320) {a b : Mem} (h : Sim a b) (oa : okM a) (ob : okM b) (kk : ∀ a1 b1, Sim a1 b1 → okM a1 → okM b1 → JI X 4 1093 [(3, .int (Int32.ofInt k)), (2, .ref (adM 0)), (1, .ref (adX 0)), (0, .ref b0)] [] (wOf TM adM (cAX X) b1 ++ wOf TX adX (cAX X) a1) nc ns) : JI X 4 977 [(3, .int (Int32.ofInt k)), (2, .ref (adM 0)), (1, .ref (adX 0)), (0, .ref b0)] [] (wOf TM adM (cAX X) b ++ wOf TX adX (cAX X) a) nc ns := by
  obtain ⟨Px, hx, hpost⟩ := st_rate (zz xs (k + 1)) (zz xs (k + 2)) a b h
  refine JI.aload_n hG 2 1 dL_law_977 rfl rfl ?_
  refine JI.aload_n hG 3 0 dL_law_978 rfl rfl ?_
  refine JI.iload_n hG 0 3 dL_law_979 rfl rfl ?_
  refine JI.iconst hG (Int32.ofInt 1) dL_law_980 rfl ?_
  refine JI.iaddI hG dL_law_981 ?_
  refine JI.sldI hG hS (by omega) (by omega) (by omega) dL_law_982 ?_
  refine JI.aload_n hG 3 0 dL_law_983 rfl rfl ?_
  refine JI.iload_n hG 0 3 dL_law_984 rfl rfl ?_
  refine JI.iconst hG (Int32.ofInt 2) dL_law_985 rfl ?_
  refine JI.iaddI hG dL_law_986 ?_
  refine JI.sldI hG hS (by omega) (by omega) (by omega) dL_law_987 ?_
  refine JI.callW hG (as := [aI (zz xs (k + 1)), aI (zz xs (k + 2))]) (st := []) hx ok_X6_rate ml_L_126 rfl rfl rfl hadX (by intro v hv; simp only [List.mem_cons, List.not_mem_nil, or_false] at hv; rcases hv with rfl | rfl <;> exact okTo _) oa rfl (Nat.le_of_ble_eq_true rfl) ⟨Nat.le_of_ble_eq_true rfl, Nat.le_of_ble_eq_true rfl⟩ hcs dL_law_988 rfl (fun r a1 hp oa1 => ?_)
  obtain ⟨Pm, hm, hpost2⟩ := hpost r a1 hp
  refine JI.aload_n hG 1 2 dL_law_991 rfl rfl ?_
  refine JI.aload_n hG 3 0 dL_law_992 rfl rfl ?_
  refine JI.iload_n hG 0 3 dL_law_993 rfl rfl ?_
  refine JI.iconst hG (Int32.ofInt 1) dL_law_994 rfl ?_
  refine JI.iaddI hG dL_law_995 ?_
  refine JI.sldI hG hS (by omega) (by omega) (by omega) dL_law_996 ?_
  refine JI.aload_n hG 3 0 dL_law_997 rfl rfl ?_
  refine JI.iload_n hG 0 3 dL_law_998 rfl rfl ?_
  refine JI.iconst hG (Int32.ofInt 2) dL_law_999 rfl ?_
  refine JI.iaddI hG dL_law_1000 ?_
  refine JI.sldI hG hS (by omega) (by omega) (by omega) dL_law_1001 ?_
  refine JI.comm ?_
  refine JI.callW hG (as := [aI (zz xs (k + 1)), aI (zz xs (k + 2))]) (st := mcV adX r ++ []) hm ok_X7_rate ml_L_129 rfl rfl rfl hadM (by intro v hv; simp only [List.mem_cons, List.not_mem_nil, or_false] at hv; rcases hv with rfl | rfl <;> exact okTo _) ob rfl (mcV_len adX r [] (Nat.zero_le 3)) ⟨Nat.le_of_ble_eq_true rfl, Nat.le_of_ble_eq_true rfl⟩ hcs dL_law_1002 rfl (fun r2 b1 hq ob1 => ?_)
  obtain ⟨v, rfl, rfl, hs⟩ := hpost2 r2 b1 hq
  refine JI.comm ?_
  show JI X 4 1005 [(3, .int (Int32.ofInt k)), (2, .ref (adM 0)), (1, .ref (adX 0)), (0, .ref b0)] [.int (Int32.ofInt v), .int (Int32.ofInt v)] (wOf TM adM (cAX X) b1 ++ wOf TX adX (cAX X) a1) nc ns
  refine JI.icmp_eqT hG 1093 dL_law_1005 rfl ?_
  exact kk a1 b1 hs oa1 ob1
set_option maxRecDepth 100000 in
set_option maxHeartbeats 4000000 in
theorem lc_28 {X : CxI} (hG : GI X RL cL_law 4 9 600000 7302250 342) {b0 Ln : Nat} {xs : Nat → Int32} (hS : Scr X b0 Ln xs) {nc ns : Nat} (hcs : nc ≤ 600000 ∧ ns ≤ 7302250) {adX adM : Nat → Nat} (hadX : ∀ i j, i < TX.length → j < TX.length → adX i = adX j → i = j) (hadM : ∀ i j, i < TM.length → j < TM.length → adM i = adM j → i = j) (k : Int) (hk : 0 ≤ k ∧ k + 5 ≤ Ln ∧ Ln ≤ 320) {a b : Mem} (h : Sim a b) (oa : okM a) (ob : okM b) (kk : ∀ a1 b1, Sim a1 b1 → okM a1 → okM b1 → JI X 4 1093 [(3, .int (Int32.ofInt k)), (2, .ref (adM 0)), (1, .ref (adX 0)), (0, .ref b0)] [] (wOf TM adM (cAX X) b1 ++ wOf TX adX (cAX X) a1) nc ns) : JI X 4 1010 [(3, .int (Int32.ofInt k)), (2, .ref (adM 0)), (1, .ref (adX 0)), (0, .ref b0)] [] (wOf TM adM (cAX X) b ++ wOf TX adX (cAX X) a) nc ns := by
  obtain ⟨Px, hx, hpost⟩ := st_keep (zz xs (k + 1)) a b h
  refine JI.aload_n hG 2 1 dL_law_1010 rfl rfl ?_
  refine JI.aload_n hG 3 0 dL_law_1011 rfl rfl ?_
  refine JI.iload_n hG 0 3 dL_law_1012 rfl rfl ?_
  refine JI.iconst hG (Int32.ofInt 1) dL_law_1013 rfl ?_
  refine JI.iaddI hG dL_law_1014 ?_
  refine JI.sldI hG hS (by omega) (by omega) (by omega) dL_law_1015 ?_
  refine JI.callW hG (as := [aI (zz xs (k + 1))]) (st := []) hx ok_X6_keep ml_L_130 rfl rfl rfl hadX (by intro v hv; simp only [List.mem_cons, List.not_mem_nil, or_false] at hv; rcases hv with rfl <;> exact okTo _) oa rfl (Nat.le_of_ble_eq_true rfl) ⟨Nat.le_of_ble_eq_true rfl, Nat.le_of_ble_eq_true rfl⟩ hcs dL_law_1016 rfl (fun r a1 hp oa1 => ?_)
  obtain ⟨Pm, hm, hpost2⟩ := hpost r a1 hp
  refine JI.aload_n hG 1 2 dL_law_1019 rfl rfl ?_
  refine JI.aload_n hG 3 0 dL_law_1020 rfl rfl ?_
  refine JI.iload_n hG 0 3 dL_law_1021 rfl rfl ?_
  refine JI.iconst hG (Int32.ofInt 1) dL_law_1022 rfl ?_
  refine JI.iaddI hG dL_law_1023 ?_
  refine JI.sldI hG hS (by omega) (by omega) (by omega) dL_law_1024 ?_
  refine JI.comm ?_
  refine JI.callW hG (as := [aI (zz xs (k + 1))]) (st := mcV adX r ++ []) hm ok_X7_keep ml_L_133 rfl rfl rfl hadM (by intro v hv; simp only [List.mem_cons, List.not_mem_nil, or_false] at hv; rcases hv with rfl <;> exact okTo _) ob rfl (mcV_len adX r [] (Nat.zero_le 3)) ⟨Nat.le_of_ble_eq_true rfl, Nat.le_of_ble_eq_true rfl⟩ hcs dL_law_1025 rfl (fun r2 b1 hq ob1 => ?_)
  obtain ⟨v, rfl, rfl, hs⟩ := hpost2 r2 b1 hq
  refine JI.comm ?_
  show JI X 4 1028 [(3, .int (Int32.ofInt k)), (2, .ref (adM 0)), (1, .ref (adX 0)), (0, .ref b0)] [.int (Int32.ofInt v), .int (Int32.ofInt v)] (wOf TM adM (cAX X) b1 ++ wOf TX adX (cAX X) a1) nc ns
  refine JI.icmp_eqT hG 1093 dL_law_1028 rfl ?_
  exact kk a1 b1 hs oa1 ob1
set_option maxRecDepth 100000 in
set_option maxHeartbeats 4000000 in
theorem lc_29 {X : CxI} (hG : GI X RL cL_law 4 9 600000 7302250 342) {b0 Ln : Nat} {xs : Nat → Int32} (hS : Scr X b0 Ln xs) {nc ns : Nat} (hcs : nc ≤ 600000 ∧ ns ≤ 7302250) {adX adM : Nat → Nat} (hadX : ∀ i j, i < TX.length → j < TX.length → adX i = adX j → i = j) (hadM : ∀ i j, i < TM.length → j < TM.length → adM i = adM j → i = j) (k : Int) (hk : 0 ≤ k ∧ k + 5 ≤ Ln ∧ Ln ≤ 320) {a b : Mem} (h : Sim a b) (oa : okM a) (ob : okM b) (kk : ∀ a1 b1, Sim a1 b1 → okM a1 → okM b1 → JI X 4 1093 [(3, .int (Int32.ofInt k)), (2, .ref (adM 0)), (1, .ref (adX 0)), (0, .ref b0)] [] (wOf TM adM (cAX X) b1 ++ wOf TX adX (cAX X) a1) nc ns) : JI X 4 1033 [(3, .int (Int32.ofInt k)), (2, .ref (adM 0)), (1, .ref (adX 0)), (0, .ref b0)] [] (wOf TM adM (cAX X) b ++ wOf TX adX (cAX X) a) nc ns := by
  obtain ⟨Px, hx, hpost⟩ := st_back (zz xs (k + 1)) a b h
  refine JI.aload_n hG 2 1 dL_law_1033 rfl rfl ?_
  refine JI.aload_n hG 3 0 dL_law_1034 rfl rfl ?_
  refine JI.iload_n hG 0 3 dL_law_1035 rfl rfl ?_
  refine JI.iconst hG (Int32.ofInt 1) dL_law_1036 rfl ?_
  refine JI.iaddI hG dL_law_1037 ?_
  refine JI.sldI hG hS (by omega) (by omega) (by omega) dL_law_1038 ?_
  refine JI.callW hG (as := [aI (zz xs (k + 1))]) (st := []) hx ok_X6_back ml_L_134 rfl rfl rfl hadX (by intro v hv; simp only [List.mem_cons, List.not_mem_nil, or_false] at hv; rcases hv with rfl <;> exact okTo _) oa rfl (Nat.le_of_ble_eq_true rfl) ⟨Nat.le_of_ble_eq_true rfl, Nat.le_of_ble_eq_true rfl⟩ hcs dL_law_1039 rfl (fun r a1 hp oa1 => ?_)
  obtain ⟨Pm, hm, hpost2⟩ := hpost r a1 hp
  refine JI.aload_n hG 1 2 dL_law_1042 rfl rfl ?_
  refine JI.aload_n hG 3 0 dL_law_1043 rfl rfl ?_
  refine JI.iload_n hG 0 3 dL_law_1044 rfl rfl ?_
  refine JI.iconst hG (Int32.ofInt 1) dL_law_1045 rfl ?_
  refine JI.iaddI hG dL_law_1046 ?_
  refine JI.sldI hG hS (by omega) (by omega) (by omega) dL_law_1047 ?_
  refine JI.comm ?_
  refine JI.callW hG (as := [aI (zz xs (k + 1))]) (st := mcV adX r ++ []) hm ok_X7_back ml_L_137 rfl rfl rfl hadM (by intro v hv; simp only [List.mem_cons, List.not_mem_nil, or_false] at hv; rcases hv with rfl <;> exact okTo _) ob rfl (mcV_len adX r [] (Nat.zero_le 3)) ⟨Nat.le_of_ble_eq_true rfl, Nat.le_of_ble_eq_true rfl⟩ hcs dL_law_1048 rfl (fun r2 b1 hq ob1 => ?_)
  obtain ⟨v, rfl, rfl, hs⟩ := hpost2 r2 b1 hq
  refine JI.comm ?_
  show JI X 4 1051 [(3, .int (Int32.ofInt k)), (2, .ref (adM 0)), (1, .ref (adX 0)), (0, .ref b0)] [.int (Int32.ofInt v), .int (Int32.ofInt v)] (wOf TM adM (cAX X) b1 ++ wOf TX adX (cAX X) a1) nc ns
  refine JI.icmp_eqT hG 1093 dL_law_1051 rfl ?_
  exact kk a1 b1 hs oa1 ob1
set_option maxRecDepth 100000 in
set_option maxHeartbeats 4000000 in
theorem lc_30 {X : CxI} (hG : GI X RL cL_law 4 9 600000 7302250 342) {b0 Ln : Nat} {xs : Nat → Int32} (hS : Scr X b0 Ln xs) {nc ns : Nat} (hcs : nc ≤ 600000 ∧ ns ≤ 7302250) {adX adM : Nat → Nat} (hadX : ∀ i j, i < TX.length → j < TX.length → adX i = adX j → i = j) (hadM : ∀ i j, i < TM.length → j < TM.length → adM i = adM j → i = j) (k : Int) (hk : 0 ≤ k ∧ k + 5 ≤ Ln ∧ Ln ≤ 320) {a b : Mem} (h : Sim a b) (oa : okM a) (ob : okM b) (kk : ∀ a1 b1, Sim a1 b1 → okM a1 → okM b1 → JI X 4 1093 [(3, .int (Int32.ofInt k)), (2, .ref (adM 0)), (1, .ref (adX 0)), (0, .ref b0)] [] (wOf TM adM (cAX X) b1 ++ wOf TX adX (cAX X) a1) nc ns) : JI X 4 1056 [(3, .int (Int32.ofInt k)), (2, .ref (adM 0)), (1, .ref (adX 0)), (0, .ref b0)] [] (wOf TM adM (cAX X) b ++ wOf TX adX (cAX X) a) nc ns := by
  obtain ⟨Px, hx, hpost⟩ := st_count (zz xs (k + 1)) a b h
  refine JI.aload_n hG 2 1 dL_law_1056 rfl rfl ?_
  refine JI.aload_n hG 3 0 dL_law_1057 rfl rfl ?_
  refine JI.iload_n hG 0 3 dL_law_1058 rfl rfl ?_
  refine JI.iconst hG (Int32.ofInt 1) dL_law_1059 rfl ?_
  refine JI.iaddI hG dL_law_1060 ?_
  refine JI.sldI hG hS (by omega) (by omega) (by omega) dL_law_1061 ?_
  refine JI.callW hG (as := [aI (zz xs (k + 1))]) (st := []) hx ok_X6_count ml_L_138 rfl rfl rfl hadX (by intro v hv; simp only [List.mem_cons, List.not_mem_nil, or_false] at hv; rcases hv with rfl <;> exact okTo _) oa rfl (Nat.le_of_ble_eq_true rfl) ⟨Nat.le_of_ble_eq_true rfl, Nat.le_of_ble_eq_true rfl⟩ hcs dL_law_1062 rfl (fun r a1 hp oa1 => ?_)
  obtain ⟨Pm, hm, hpost2⟩ := hpost r a1 hp
  refine JI.aload_n hG 1 2 dL_law_1065 rfl rfl ?_
  refine JI.aload_n hG 3 0 dL_law_1066 rfl rfl ?_
  refine JI.iload_n hG 0 3 dL_law_1067 rfl rfl ?_
  refine JI.iconst hG (Int32.ofInt 1) dL_law_1068 rfl ?_
  refine JI.iaddI hG dL_law_1069 ?_
  refine JI.sldI hG hS (by omega) (by omega) (by omega) dL_law_1070 ?_
  refine JI.comm ?_
  refine JI.callW hG (as := [aI (zz xs (k + 1))]) (st := mcV adX r ++ []) hm ok_X7_count ml_L_141 rfl rfl rfl hadM (by intro v hv; simp only [List.mem_cons, List.not_mem_nil, or_false] at hv; rcases hv with rfl <;> exact okTo _) ob rfl (mcV_len adX r [] (Nat.zero_le 3)) ⟨Nat.le_of_ble_eq_true rfl, Nat.le_of_ble_eq_true rfl⟩ hcs dL_law_1071 rfl (fun r2 b1 hq ob1 => ?_)
  obtain ⟨v, rfl, rfl, hs⟩ := hpost2 r2 b1 hq
  refine JI.comm ?_
  show JI X 4 1074 [(3, .int (Int32.ofInt k)), (2, .ref (adM 0)), (1, .ref (adX 0)), (0, .ref b0)] [.int (Int32.ofInt v), .int (Int32.ofInt v)] (wOf TM adM (cAX X) b1 ++ wOf TX adX (cAX X) a1) nc ns
  refine JI.icmp_eqT hG 1093 dL_law_1074 rfl ?_
  exact kk a1 b1 hs oa1 ob1
set_option maxRecDepth 100000 in
set_option maxHeartbeats 4000000 in
theorem lc_31 {X : CxI} (hG : GI X RL cL_law 4 9 600000 7302250 342) {b0 Ln : Nat} {xs : Nat → Int32} (hS : Scr X b0 Ln xs) {nc ns : Nat} (hcs : nc ≤ 600000 ∧ ns ≤ 7302250) {adX adM : Nat → Nat} (hadX : ∀ i j, i < TX.length → j < TX.length → adX i = adX j → i = j) (hadM : ∀ i j, i < TM.length → j < TM.length → adM i = adM j → i = j) (k : Int) (hk : 0 ≤ k ∧ k + 5 ≤ Ln ∧ Ln ≤ 320) {a b : Mem} (h : Sim a b) (oa : okM a) (ob : okM b) (kk : ∀ a1 b1, Sim a1 b1 → okM a1 → okM b1 → JI X 4 1093 [(3, .int (Int32.ofInt k)), (2, .ref (adM 0)), (1, .ref (adX 0)), (0, .ref b0)] [] (wOf TM adM (cAX X) b1 ++ wOf TX adX (cAX X) a1) nc ns) : JI X 4 1079 [(3, .int (Int32.ofInt k)), (2, .ref (adM 0)), (1, .ref (adX 0)), (0, .ref b0)] [] (wOf TM adM (cAX X) b ++ wOf TX adX (cAX X) a) nc ns := by
  obtain ⟨Px, hx, hpost⟩ := st_trace  a b h
  refine JI.aload_n hG 2 1 dL_law_1079 rfl rfl ?_
  refine JI.callW hG (as := []) (st := []) hx ok_X6_trace ml_L_142 rfl rfl rfl hadX (fun v hv => absurd hv List.not_mem_nil) oa rfl (Nat.le_of_ble_eq_true rfl) ⟨Nat.le_of_ble_eq_true rfl, Nat.le_of_ble_eq_true rfl⟩ hcs dL_law_1080 rfl (fun r a1 hp oa1 => ?_)
  obtain ⟨Pm, hm, hpost2⟩ := hpost r a1 hp
  refine JI.aload_n hG 1 2 dL_law_1083 rfl rfl ?_
  refine JI.comm ?_
  refine JI.callW hG (as := []) (st := mcV adX r ++ []) hm ok_X7_trace ml_L_146 rfl rfl rfl hadM (fun v hv => absurd hv List.not_mem_nil) ob rfl (mcV_len adX r [] (Nat.zero_le 3)) ⟨Nat.le_of_ble_eq_true rfl, Nat.le_of_ble_eq_true rfl⟩ hcs dL_law_1084 rfl (fun r2 b1 hq ob1 => ?_)
  obtain ⟨v, rfl, rfl, hs⟩ := hpost2 r2 b1 hq
  refine JI.comm ?_
  show JI X 4 1087 [(3, .int (Int32.ofInt k)), (2, .ref (adM 0)), (1, .ref (adX 0)), (0, .ref b0)] [.long (Int64.ofInt v), .long (Int64.ofInt v)] (wOf TM adM (cAX X) b1 ++ wOf TX adX (cAX X) a1) nc ns
  refine JI.lcmpE hG dL_law_1087 ?_
  refine JI.if_eqT hG 1093 dL_law_1088 rfl ?_
  exact kk a1 b1 hs oa1 ob1

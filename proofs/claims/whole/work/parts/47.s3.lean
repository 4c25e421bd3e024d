theorem ite_c2 {P Q : Prop} [Decidable P] [Decidable Q] {x y z : Int} (h : P ↔ Q) (hy : y = z) : (if P then x else y) = if Q then x else z := by
  subst hy
  by_cases hp : P
  · rw [if_pos hp, if_pos (h.mp hp)]
  · rw [if_neg hp, if_neg (fun w => hp (h.mpr w))]
theorem st_scale (s w : Int) : St md_X6_scale md_X7_scale [aI s, aI w] aI := by
  intro a b h
  obtain ⟨h1, h2, h3, h4, h5, h6, h7, h8⟩ := id (Sim_th h)
  have hM := br_MB h2 h3
  have hB := h3.1
  obtain ⟨⟨y0, y1⟩, ⟨y2, y3⟩, hla, hva⟩ := id h3.2.2
  refine ⟨_, X6_scale a hB s w, ?_⟩
  intro r a1 hp9
  refine ⟨_, X7_scale b (th b) rfl hM s w, ?_⟩
  intro r2 b1 hq9
  obtain ⟨rfl, rfl⟩ := hp9
  obtain ⟨rfl, rfl⟩ := hq9
  refine ⟨_, rfl, congrArg (fun z => some (aI z)) ?_, Sim_th h⟩
  rw [h2.1.1]
  refine ite_same (fun hc => ?_)
  rw [(hla s hc.1.1 hc.1.2).1, (hla s hc.1.1 hc.1.2).2, h2.2.1 s hc.1.1 hc.1.2]
theorem st_life (l s w : Int) : St md_X6_life md_X7_life [aI l, aI s, aI w] aI := by
  intro a b h
  obtain ⟨h1, h2, h3, h4, h5, h6, h7, h8⟩ := id (Sim_th h)
  have hM := br_MB h2 h3
  have hB := h3.1
  obtain ⟨⟨y0, y1⟩, ⟨y2, y3⟩, hla, hva⟩ := id h3.2.2
  refine ⟨_, X6_life a hB l s w, ?_⟩
  intro r a1 hp9
  refine ⟨_, X7_life b (th b) rfl hM l s w, ?_⟩
  intro r2 b1 hq9
  obtain ⟨rfl, rfl⟩ := hp9
  obtain ⟨rfl, rfl⟩ := hq9
  refine ⟨_, rfl, congrArg (fun z => some (aI z)) ?_, Sim_th h⟩
  rw [h2.1.1, h2.1.2.1]
  refine ite_same (fun hc => ?_)
  rw [(hva l s hc.1.1 hc.1.2 hc.2.1.1 hc.2.1.2).1, h2.2.2.1 l s hc.1.1 hc.1.2 hc.2.1.1 hc.2.1.2, br_E h2 h3 hc.1 hc.2.1]
theorem st_end (s v : Int) : St md_X6_end md_X7_end [aI s, aI v] aI := by
  intro a b h
  obtain ⟨h1, h2, h3, h4, h5, h6, h7, h8⟩ := id (Sim_th h)
  have hM := br_MB h2 h3
  have hB := h3.1
  obtain ⟨⟨y0, y1⟩, ⟨y2, y3⟩, hla, hva⟩ := id h3.2.2
  refine ⟨_, X6_end a hB s v, ?_⟩
  intro r a1 hp9
  refine ⟨_, X7_end b (th b) rfl hM s v, ?_⟩
  intro r2 b1 hq9
  obtain ⟨rfl, rfl⟩ := hp9
  obtain ⟨rfl, rfl⟩ := hq9
  refine ⟨_, rfl, congrArg (fun z => some (aI z)) ?_, Sim_th h⟩
  rw [h2.1.1]
  by_cases hs : 0 ≤ s ∧ s < a 13 0
  · rw [h2.2.1 s hs.1 hs.2]
    refine ite_same (fun hc => ?_)
    rw [br_En h2 h3 hs]
    rfl
  · rw [if_neg (fun w => hs w.1), if_neg (fun w => hs w.1)]
theorem st_place (p : Int) : St md_X6_place md_X7_place [aI p] aI := by
  intro a b h
  obtain ⟨h1, h2, h3, h4, h5, h6, h7, h8⟩ := id (Sim_th h)
  have hM := br_MB h2 h3
  have hB := h3.1
  obtain ⟨⟨y0, y1⟩, ⟨y2, y3⟩, hla, hva⟩ := id h3.2.2
  refine ⟨_, X6_place a hB p, ?_⟩
  intro r a1 hp9
  refine ⟨_, X7_place b (th b) rfl hM p, ?_⟩
  intro r2 b1 hq9
  obtain ⟨rfl, rfl⟩ := hp9
  obtain ⟨rfl, rfl⟩ := hq9
  refine ⟨_, rfl, congrArg (fun z => some (aI z)) ?_, Sim_th h⟩
  rw [h2.1.2.2.1]
  exact ite_same (fun hc => h2.2.2.2 p hc.1 hc.2)
theorem st_now (w : Int) : St md_X6_now md_X7_now [aI w] aI := by
  intro a b h
  obtain ⟨h1, h2, h3, h4, h5, h6, h7, h8⟩ := id (Sim_th h)
  have hM := br_MB h2 h3
  have hB := h3.1
  obtain ⟨⟨y0, y1⟩, ⟨y2, y3⟩, hla, hva⟩ := id h3.2.2
  refine ⟨_, X6_now a hB w, ?_⟩
  intro r a1 hp9
  refine ⟨_, X7_now b (th b) rfl hM w, ?_⟩
  intro r2 b1 hq9
  obtain ⟨rfl, rfl⟩ := hp9
  obtain ⟨rfl, rfl⟩ := hq9
  refine ⟨_, rfl, congrArg (fun z => some (aI z)) ?_, Sim_th h⟩
  rw [y0, br_Bits h2 h3, br_Dr h2 h3, h2.1.2.2.2, y1, h4.2.1]
theorem st_behind (n l s : Int) : St md_X6_behind md_X7_behind [aI n, aI l, aI s] aI := by
  intro a b h
  obtain ⟨h1, h2, h3, h4, h5, h6, h7, h8⟩ := id (Sim_th h)
  have hM := br_MB h2 h3
  have hB := h3.1
  obtain ⟨⟨y0, y1⟩, ⟨y2, y3⟩, hla, hva⟩ := id h3.2.2
  refine ⟨_, X6_behind a hB n l s, ?_⟩
  intro r a1 hp9
  refine ⟨_, X7_behind b (th b) rfl hM ⟨by rw [y0]; exact y2.1, by rw [y0]; omega⟩ ⟨by rw [y1]; exact y3.1, by rw [y1]; omega⟩ n l s, ?_⟩
  intro r2 b1 hq9
  obtain ⟨rfl, rfl⟩ := hp9
  obtain ⟨hF, rfl⟩ := hq9
  refine ⟨_, rfl, congrArg (fun z => some (aI z)) ?_, Sim_8 (Sim_th h) hF⟩
  rw [h2.1.1, h2.1.2.1]
  refine ite_same (fun hc => ?_)
  exact br_Ey h2 h3 n hc.2.1 hc.2.2
theorem st_first (l w : Int) : St md_X6_first md_X7_first [aI l, aI w] aI := by
  intro a b h
  obtain ⟨h1, h2, h3, h4, h5, h6, h7, h8⟩ := id (Sim_th h)
  have hM := br_MB h2 h3
  have hB := h3.1
  obtain ⟨⟨y0, y1⟩, ⟨y2, y3⟩, hla, hva⟩ := id h3.2.2
  refine ⟨_, X6_first a hB l w, ?_⟩
  intro r a1 hp9
  refine ⟨_, X7_first b (th b) rfl hM ⟨by rw [y0]; exact y2.1, by rw [y0]; omega⟩ ⟨by rw [y1]; exact y3.1, by rw [y1]; omega⟩ l w, ?_⟩
  intro r2 b1 hq9
  obtain ⟨rfl, rfl⟩ := hp9
  obtain ⟨hF, rfl⟩ := hq9
  refine ⟨_, rfl, congrArg (fun z => some (aI z)) ?_, Sim_8 (Sim_th h) hF⟩
  rw [h2.1.2.1]
  refine ite_same (fun hc => ?_)
  rw [show (fun n => mUy (th b) n l) = fun n => xU a n l from funext fun n => br_Uy h2 h3 n hc.1]
theorem st_freed (s w t : Int) : St md_X6_freed md_X7_freed [aI s, aI w, aI t] aI := by
  intro a b h
  obtain ⟨h1, h2, h3, h4, h5, h6, h7, h8⟩ := id (Sim_th h)
  have hM := br_MB h2 h3
  have hB := h3.1
  obtain ⟨⟨y0, y1⟩, ⟨y2, y3⟩, hla, hva⟩ := id h3.2.2
  refine ⟨_, X6_freed a hB s w t, ?_⟩
  intro r a1 hp9
  refine ⟨_, X7_freed b (th b) rfl hM ⟨by rw [y0]; exact y2.1, by rw [y0]; omega⟩ ⟨by rw [y1]; exact y3.1, by rw [y1]; omega⟩ s w t, ?_⟩
  intro r2 b1 hq9
  obtain ⟨rfl, rfl⟩ := hp9
  obtain ⟨hF, rfl⟩ := hq9
  refine ⟨_, rfl, congrArg (fun z => some (aI z)) ?_, Sim_8 (Sim_th h) hF⟩
  rw [h2.1.1]
  by_cases hs : 0 ≤ s ∧ s < a 13 0
  · rw [h2.2.1 s hs.1 hs.2]
    exact ite_same (fun hc => br_freed h2 h3 hs w t)
  · rw [if_neg (fun w => hs w.1), if_neg (fun w => hs w.1)]
theorem st_bestJump (s w : Int) : St md_X6_bestJump md_X7_bestJump [aI s, aI w] aI := by
  intro a b h
  obtain ⟨h1, h2, h3, h4, h5, h6, h7, h8⟩ := id (Sim_th h)
  have hM := br_MB h2 h3
  have hB := h3.1
  obtain ⟨⟨y0, y1⟩, ⟨y2, y3⟩, hla, hva⟩ := id h3.2.2
  refine ⟨_, X6_bestJump a hB s w, ?_⟩
  intro r a1 hp9
  refine ⟨_, X7_bestJump b (th b) rfl hM s w, ?_⟩
  intro r2 b1 hq9
  obtain ⟨rfl, rfl⟩ := hp9
  obtain ⟨hF, rfl⟩ := hq9
  refine ⟨_, rfl, congrArg (fun z => some (aI z)) ?_, Sim_8 (Sim_th h) hF⟩
  rw [h2.1.1]
  refine ite_same (fun hc => ?_)
  rw [br_BJ h2 h3 hc.1]
theorem st_orders (l i : Int) : St md_X6_orders md_X7_orders [aI l, aI i] aI := by
  intro a b h
  obtain ⟨h1, h2, h3, h4, h5, h6, h7, h8⟩ := id (Sim_th h)
  have hM := br_MB h2 h3
  have hB := h3.1
  obtain ⟨⟨y0, y1⟩, ⟨y2, y3⟩, hla, hva⟩ := id h3.2.2
  refine ⟨_, X6_orders a hB h6.1 l i, ?_⟩
  intro r a1 hp9
  refine ⟨_, X7_orders b (th b) rfl hM (br_Pn h2 h6) l i, ?_⟩
  intro r2 b1 hq9
  obtain ⟨hX, rfl⟩ := hp9
  obtain ⟨hF, rfl⟩ := hq9
  refine ⟨_, rfl, congrArg (fun z => some (aI z)) ?_, Sim_F (Sim_th h) (fun c hc => hX c (by omega)) (fun j _ => by rw [hF 0 (by decide) (by decide) (by decide)]) (fun c _ c8 c17 => hF c c8 (by omega) (by omega))⟩
  rw [h2.1.2.1]
  refine ite_same (fun hc => ?_)
  rw [br_Sel h2 h3 h6 hc.1 (-9) (Or.inl rfl), h6.2.1]
theorem st_bars (l : Int) : St md_X6_bars md_X7_bars [aI l] aI := by
  intro a b h
  obtain ⟨h1, h2, h3, h4, h5, h6, h7, h8⟩ := id (Sim_th h)
  have hM := br_MB h2 h3
  have hB := h3.1
  obtain ⟨⟨y0, y1⟩, ⟨y2, y3⟩, hla, hva⟩ := id h3.2.2
  refine ⟨_, X6_bars a hB h6.1 l, ?_⟩
  intro r a1 hp9
  refine ⟨_, X7_bars b (th b) rfl hM (br_Pn h2 h6) l, ?_⟩
  intro r2 b1 hq9
  obtain ⟨hX, rfl⟩ := hp9
  obtain ⟨hF, rfl⟩ := hq9
  refine ⟨_, rfl, congrArg (fun z => some (aI z)) ?_, Sim_F (Sim_th h) (fun c hc => hX c (by omega)) (fun j _ => by rw [hF 0 (by decide) (by decide) (by decide)]) (fun c _ c8 c17 => hF c c8 (by omega) (by omega))⟩
  rw [h2.1.2.1]
  refine ite_same (fun hc => ?_)
  unfold barA
  dsimp only
  rw [h6.2.1]
  refine ite_c2 (by rw [br_Sel h2 h3 h6 hc (-9) (Or.inl rfl)]) (fs3_congr _ _ (fun k u v => ?_))
  exact ite_c2 (by rw [br_Sel h2 h3 h6 hc k (Or.inr ⟨u, by omega⟩)]) rfl
theorem st_trip (s p t w : Int) : St md_X6_trip md_X7_trip [aI s, aI p, aI t, aI w] aI := by
  intro a b h
  obtain ⟨h1, h2, h3, h4, h5, h6, h7, h8⟩ := id (Sim_th h)
  have hM := br_MB h2 h3
  have hB := h3.1
  obtain ⟨⟨y0, y1⟩, ⟨y2, y3⟩, hla, hva⟩ := id h3.2.2
  refine ⟨_, X6_trip a hB h3.2.1 s p t w, ?_⟩
  intro r a1 hp9
  refine ⟨_, X7_trip b (th b) rfl hM (br_Pl h2 h3) s p t w, ?_⟩
  intro r2 b1 hq9
  obtain ⟨hX, rfl⟩ := hp9
  obtain ⟨hF, rfl⟩ := hq9
  refine ⟨_, rfl, congrArg (fun z => some (aI z)) ?_, Sim_F (Sim_th h) (fun c hc => hX c (by omega)) (fun j _ => by rw [hF 0 (by decide)]) (fun c _ _ _ => hF c (by omega))⟩
  have e := h2.1.2.2.1
  by_cases hs : (0 ≤ s ∧ s < a 13 0) ∧ (0 ≤ p ∧ p < a 13 2)
  · rw [br_trip h2 h3 hs.1 hs.2, h2.1.1, e]
  · rw [if_neg (fun w => hs ⟨by rw [h2.1.1] at w; exact w.1, by rw [e] at w; exact w.2.1⟩), if_neg (fun w => hs ⟨w.1, w.2.1⟩)]
theorem st_parts (s d w : Int) : St md_X6_parts md_X7_parts [aI s, aI d, aI w] aI := by
  intro a b h
  obtain ⟨h1, h2, h3, h4, h5, h6, h7, h8⟩ := id (Sim_th h)
  have hM := br_MB h2 h3
  have hB := h3.1
  obtain ⟨⟨y0, y1⟩, ⟨y2, y3⟩, hla, hva⟩ := id h3.2.2
  refine ⟨_, X6_parts a hB s d w, ?_⟩
  intro r a1 hp9
  refine ⟨_, X7_parts b (th b) rfl hM s d w, ?_⟩
  intro r2 b1 hq9
  obtain ⟨hX, rfl⟩ := hp9
  obtain ⟨hF, rfl⟩ := hq9
  refine ⟨_, rfl, congrArg (fun z => some (aI z)) ?_, Sim_F (Sim_th h) (fun c hc => hX c (by omega)) (fun j _ => by rw [hF 0 (by decide)]) (fun c _ _ _ => hF c (by omega))⟩
  rw [h2.1.1]
  refine ite_same (fun hc => ?_)
  rw [br_En h2 h3 hc.1, h2.2.1 s hc.1.1 hc.1.2]
theorem st_fits (s : Int) : St md_X6_fits md_X7_fits [aI s] aI := by
  intro a b h
  obtain ⟨h1, h2, h3, h4, h5, h6, h7, h8⟩ := id (Sim_th h)
  have hM := br_MB h2 h3
  have hB := h3.1
  obtain ⟨⟨y0, y1⟩, ⟨y2, y3⟩, hla, hva⟩ := id h3.2.2
  refine ⟨_, X6_fits a hB h7.1 s, ?_⟩
  intro r a1 hp9
  refine ⟨_, X7_fits b (th b) rfl hM (br_Bk h7) s, ?_⟩
  intro r2 b1 hq9
  obtain ⟨rfl, rfl⟩ := hp9
  obtain ⟨rfl, rfl⟩ := hq9
  refine ⟨_, rfl, congrArg (fun z => some (aI z)) ?_, Sim_th h⟩
  rw [h2.1.1]
  exact ite_same (fun hc => br_Fits h2 h3 h7 hc)
theorem st_sure (s y : Int) : St md_X6_sure md_X7_sure [aI s, aI y] aI := by
  intro a b h
  obtain ⟨h1, h2, h3, h4, h5, h6, h7, h8⟩ := id (Sim_th h)
  have hM := br_MB h2 h3
  have hB := h3.1
  obtain ⟨⟨y0, y1⟩, ⟨y2, y3⟩, hla, hva⟩ := id h3.2.2
  refine ⟨_, X6_sure a hB h7.1 s y, ?_⟩
  intro r a1 hp9
  refine ⟨_, X7_sure b (th b) rfl hM (br_Bk h7) s y, ?_⟩
  intro r2 b1 hq9
  obtain ⟨rfl, rfl⟩ := hp9
  obtain ⟨rfl, rfl⟩ := hq9
  refine ⟨_, rfl, congrArg (fun z => some (aI z)) ?_, Sim_th h⟩
  rw [h2.1.1]
  exact ite_same (fun hc => br_Sure h2 h3 h7 hc.1 y)
theorem st_clash : St md_X6_clash md_X7_clash [] aI := by
  intro a b h
  obtain ⟨h1, h2, h3, h4, h5, h6, h7, h8⟩ := id (Sim_th h)
  have hM := br_MB h2 h3
  have hB := h3.1
  obtain ⟨⟨y0, y1⟩, ⟨y2, y3⟩, hla, hva⟩ := id h3.2.2
  refine ⟨_, X6_clash a hB, ?_⟩
  intro r a1 hp9
  refine ⟨_, X7_clash b (th b) rfl hM, ?_⟩
  intro r2 b1 hq9
  obtain ⟨rfl, rfl⟩ := hp9
  obtain ⟨rfl, rfl⟩ := hq9
  refine ⟨_, rfl, congrArg (fun z => some (aI z)) ?_, Sim_th h⟩
  exact br_Clash h2 h3
theorem st_count (w : Int) : St md_X6_count md_X7_count [aI w] aI := by
  intro a b h
  obtain ⟨h1, h2, h3, h4, h5, h6, h7, h8⟩ := id (Sim_th h)
  have hM := br_MB h2 h3
  have hB := h3.1
  obtain ⟨⟨y0, y1⟩, ⟨y2, y3⟩, hla, hva⟩ := id h3.2.2
  refine ⟨_, X6_count a w, ?_⟩
  intro r a1 hp9
  refine ⟨_, X7_count b (th b) rfl w, ?_⟩
  intro r2 b1 hq9
  obtain ⟨rfl, rfl⟩ := hp9
  obtain ⟨rfl, rfl⟩ := hq9
  refine ⟨_, rfl, congrArg (fun z => some (aI z)) ?_, Sim_th h⟩
  rw [h2.1.1, h2.1.2.1, h2.1.2.2.1, h2.1.2.2.2, h6.2.1, h7.2.1, h1.1.1]
theorem st_trace : St md_X6_trace md_X7_trace [] aL := by
  intro a b h
  obtain ⟨h1, h2, h3, h4, h5, h6, h7, h8⟩ := id (Sim_th h)
  have hM := br_MB h2 h3
  have hB := h3.1
  obtain ⟨⟨y0, y1⟩, ⟨y2, y3⟩, hla, hva⟩ := id h3.2.2
  refine ⟨_, X6_trace a, ?_⟩
  intro r a1 hp9
  refine ⟨_, X7_trace b (th b) rfl, ?_⟩
  intro r2 b1 hq9
  obtain ⟨rfl, rfl⟩ := hp9
  obtain ⟨rfl, rfl⟩ := hq9
  refine ⟨_, rfl, congrArg (fun z => some (aL z)) ?_, Sim_th h⟩
  exact h8

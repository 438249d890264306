/-! The law's cases 0 to 19. -/
section Cases
variable {g : GL} {d : Nat} {xs : Nat → Int32} {L i n nx : Nat} {mc ms : Nat} {Post : RO → RM → Prop} {μ ν : Mem} {l : List Nat} {G : RG}
theorem ta_347 : TailI 347 2373 := ⟨d_law_347, d_law_349, d_law_350, d_law_353, d_law_355, d_law_360, d_law_362, d_law_365, d_law_366, d_law_367, d_law_368, d_law_370, d_law_371, d_law_372, d_law_377, by decide⟩
theorem C_0 (hs : g.2.2.2.2.2 90 = some (true, 0, L, fun q => .inl (.int (xs q)))) (hL : L ≤ 3584) (hi : i + 7 ≤ L) (hn : n < 512) (hS : SG g) (hD : DG g) (hI : wLI μ ν l G nx n) (hk : wKN g (d + 40) i n mc ms Post) : Ev g (d + 40) m_law 276 (wLS i) [] (G, nx) (60 + mc) (7000 + ms) Post := by
  have hI0 := hI
  obtain ⟨hC, hV, ⟨f0, h547⟩, hG, hO, hU, h548, hnx⟩ := hI
  have hb2 := wB_lt hn
  obtain ⟨o, r, μ', ν', e1, e2, e3, e4, e5, e6⟩ := T_append hG (xs (i + 1)) (xs (i + 2)) (xs (i + 3)) (xs (i + 4)) (xs (i + 5))
  refine ev_aload_n (k0 := 1) rfl d_law_276 ?_
  refine ev_arg hs hL 1 (by omega) rfl rfl rfl d_law_277 d_law_278 d_law_280 d_law_281 d_law_282 ?_
  refine ev_arg hs hL 2 (by omega) rfl rfl rfl d_law_283 d_law_284 d_law_286 d_law_287 d_law_288 ?_
  refine ev_arg hs hL 3 (by omega) rfl rfl rfl d_law_289 d_law_290 d_law_292 d_law_293 d_law_294 ?_
  refine ev_arg hs hL 4 (by omega) rfl rfl rfl d_law_295 d_law_296 d_law_298 d_law_299 d_law_300 ?_
  refine ev_arg hs hL 5 (by omega) rfl rfl rfl d_law_301 d_law_302 d_law_304 d_law_305 d_law_306 ?_
  refine ev_aload_n (k0 := 3) rfl d_law_307 ?_
  refine Ev.room (mc := 1 + mc) (ms := 6 + ms) (ev_invSH (d := d + 39) (vs := [.inr (0, 0), .inl (.int (xs (i + 1))), .inl (.int (xs (i + 2))), .inl (.int (xs (i + 3))), .inl (.int (xs (i + 4))), .inl (.int (xs (i + 5))), .inr (0, 547)]) (st := []) (fun h => by cases h) lh_127 (LW_append (d + 38) hC h547 e3 (w_P_append (d + 36) hC e1)) rfl (Nat.le_of_ble_eq_true rfl) d_law_308 (aft_wr (fun G1 n1 f hW q1 q2 q3 => ?_))) (by omega) (by omega)
  refine cw_istoreN 5 (ν' 13 0 7) rfl (wLS2 i (some (.inl (.int (ν' 13 0 7)))) none) d_law_311 rfl rfl rfl ?_
  refine ev_aload_n (k0 := 2) rfl d_law_313 ?_
  refine ev_arg hs hL 1 (by omega) rfl rfl rfl d_law_314 d_law_315 d_law_317 d_law_318 d_law_319 ?_
  refine ev_arg hs hL 2 (by omega) rfl rfl rfl d_law_320 d_law_321 d_law_323 d_law_324 d_law_325 ?_
  refine ev_arg hs hL 3 (by omega) rfl rfl rfl d_law_326 d_law_327 d_law_329 d_law_330 d_law_331 ?_
  refine ev_arg hs hL 4 (by omega) rfl rfl rfl d_law_332 d_law_333 d_law_335 d_law_336 d_law_337 ?_
  refine ev_arg hs hL 5 (by omega) rfl rfl rfl d_law_338 d_law_339 d_law_341 d_law_342 d_law_343 ?_
  have hV1 : LM vr 535 547 ν G1 G1 := hW.farR hV
  refine Ev.z9 (cv_V (d := d + 39) [.inl (.int (xs (i + 1))), .inl (.int (xs (i + 2))), .inl (.int (xs (i + 3))), .inl (.int (xs (i + 4))), .inl (.int (xs (i + 5)))] hV1 v_13 rfl lk_ProphecyShopLaw_132 (w_R_append (d + 38) hV1 e2) rfl rfl d_law_344 (aft_rw (fun G2 hG2 => ?_)))
  obtain ⟨hI2, hC2⟩ := hI0.step hn hW q1 q2 hG2 e4 e5 e6
  exact law_tailI ta_347 hI2 hC2 rfl q3 hk
theorem ta_403 : TailI 403 2317 := ⟨d_law_403, d_law_405, d_law_406, d_law_409, d_law_411, d_law_416, d_law_418, d_law_421, d_law_422, d_law_423, d_law_424, d_law_426, d_law_427, d_law_428, d_law_433, by decide⟩
theorem C_1 (hs : g.2.2.2.2.2 90 = some (true, 0, L, fun q => .inl (.int (xs q)))) (hL : L ≤ 3584) (hi : i + 7 ≤ L) (hn : n < 512) (hS : SG g) (hD : DG g) (hI : wLI μ ν l G nx n) (hk : wKN g (d + 40) i n mc ms Post) : Ev g (d + 40) m_law 380 (wLS i) [] (G, nx) (60 + mc) (7000 + ms) Post := by
  have hI0 := hI
  obtain ⟨hC, hV, ⟨f0, h547⟩, hG, hO, hU, h548, hnx⟩ := hI
  have hb2 := wB_lt hn
  obtain ⟨o, r, μ', ν', e1, e2, e3, e4, e5, e6⟩ := T_truncate hG (xs (i + 1))
  refine ev_aload_n (k0 := 1) rfl d_law_380 ?_
  refine ev_arg hs hL 1 (by omega) rfl rfl rfl d_law_381 d_law_382 d_law_384 d_law_385 d_law_386 ?_
  refine ev_aload_n (k0 := 3) rfl d_law_387 ?_
  refine Ev.room (mc := 1 + mc) (ms := 6 + ms) (ev_invSH (d := d + 39) (vs := [.inr (0, 0), .inl (.int (xs (i + 1))), .inr (0, 547)]) (st := []) (fun h => by cases h) lh_136 (LW_truncate (d + 38) hC h547 e3 (w_P_truncate (d + 37) hC e1)) rfl (Nat.le_of_ble_eq_true rfl) d_law_388 (aft_wr (fun G1 n1 f hW q1 q2 q3 => ?_))) (by omega) (by omega)
  refine cw_istoreN 5 (ν' 13 0 7) rfl (wLS2 i (some (.inl (.int (ν' 13 0 7)))) none) d_law_391 rfl rfl rfl ?_
  refine ev_aload_n (k0 := 2) rfl d_law_393 ?_
  refine ev_arg hs hL 1 (by omega) rfl rfl rfl d_law_394 d_law_395 d_law_397 d_law_398 d_law_399 ?_
  have hV1 : LM vr 535 547 ν G1 G1 := hW.farR hV
  refine Ev.z9 (cv_V (d := d + 39) [.inl (.int (xs (i + 1)))] hV1 v_13 rfl lk_ProphecyShopLaw_139 (w_R_truncate (d + 38) hV1 e2) rfl rfl d_law_400 (aft_rw (fun G2 hG2 => ?_)))
  obtain ⟨hI2, hC2⟩ := hI0.step hn hW q1 q2 hG2 e4 e5 e6
  exact law_tailI ta_403 hI2 hC2 rfl q3 hk
theorem C_2 (hs : g.2.2.2.2.2 90 = some (true, 0, L, fun q => .inl (.int (xs q)))) (hL : L ≤ 3584) (hi : i + 7 ≤ L) (hn : n < 512) (hS : SG g) (hD : DG g) (hI : wLI μ ν l G nx n) (hk : wKN g (d + 40) i n mc ms Post) : Ev g (d + 40) m_law 436 (wLS i) [] (G, nx) (60 + mc) (7000 + ms) Post := by
  have hI0 := hI
  obtain ⟨hC, hV, ⟨f0, h547⟩, hG, hO, hU, h548, hnx⟩ := hI
  have hb2 := wB_lt hn
  obtain ⟨r, μ', ν', e1, e2, e4, e5, e6⟩ := T_load hG
  refine Ev.room (mc := mc) (ms := ms) ?_ (by omega) (by omega)
  refine ev_aload_n (k0 := 1) rfl d_law_436 ?_
  refine Ev.z9 (cv_V (d := d + 39) [] hC v_12 rfl lk_ProphecyShopLaw_140 (w_P_load (d + 28) hS hC e1) rfl rfl d_law_437 (aft_rw (fun G1 hG1 => ?_)))
  refine ev_aload_n (k0 := 2) rfl d_law_440 ?_
  have hW := hG1.same h547
  have hV1 : LM vr 535 547 ν G1 G1 := hW.farR hV
  refine Ev.z9 (cv_V (d := d + 39) [] hV1 v_13 rfl lk_ProphecyShopLaw_143 (w_R_load (d + 30) hS hV1 e2) rfl rfl d_law_441 (aft_rw (fun G2 hG2 => ?_)))
  obtain ⟨hI2, -⟩ := hI0.step hn hW (Nat.le_refl _) (Nat.le_add_right _ _) hG2 e4 e5 e6
  exact ev_icmp_eq (tgt := 2750) (by decide) d_law_444 (fun _ => hk hI2) (fun z => absurd rfl z)
theorem C_3 (hs : g.2.2.2.2.2 90 = some (true, 0, L, fun q => .inl (.int (xs q)))) (hL : L ≤ 3584) (hi : i + 7 ≤ L) (hn : n < 512) (hS : SG g) (hD : DG g) (hI : wLI μ ν l G nx n) (hk : wKN g (d + 40) i n mc ms Post) : Ev g (d + 40) m_law 449 (wLS i) [] (G, nx) (60 + mc) (7000 + ms) Post := by
  have hI0 := hI
  obtain ⟨hC, hV, ⟨f0, h547⟩, hG, hO, hU, h548, hnx⟩ := hI
  have hb2 := wB_lt hn
  obtain ⟨r, μ', ν', e1, e2, e4, e5, e6⟩ := T_runScript hG
  refine Ev.room (mc := mc) (ms := ms) ?_ (by omega) (by omega)
  refine ev_aload_n (k0 := 1) rfl d_law_449 ?_
  refine Ev.z9 (cv_V (d := d + 39) [] hC v_12 rfl lk_ProphecyShopLaw_144 (w_P_runScript (d + 27) hS hC e1) rfl rfl d_law_450 (aft_rw (fun G1 hG1 => ?_)))
  refine ev_aload_n (k0 := 2) rfl d_law_453 ?_
  have hW := hG1.same h547
  have hV1 : LM vr 535 547 ν G1 G1 := hW.farR hV
  refine Ev.z9 (cv_V (d := d + 39) [] hV1 v_13 rfl lk_ProphecyShopLaw_147 (w_R_runScript (d + 15) hS hV1 e2) rfl rfl d_law_454 (aft_rw (fun G2 hG2 => ?_)))
  obtain ⟨hI2, -⟩ := hI0.step hn hW (Nat.le_refl _) (Nat.le_add_right _ _) hG2 e4 e5 e6
  exact ev_icmp_eq (tgt := 2750) (by decide) d_law_457 (fun _ => hk hI2) (fun z => absurd rfl z)
theorem C_4 (hs : g.2.2.2.2.2 90 = some (true, 0, L, fun q => .inl (.int (xs q)))) (hL : L ≤ 3584) (hi : i + 7 ≤ L) (hn : n < 512) (hS : SG g) (hD : DG g) (hI : wLI μ ν l G nx n) (hk : wKN g (d + 40) i n mc ms Post) : Ev g (d + 40) m_law 462 (wLS i) [] (G, nx) (60 + mc) (7000 + ms) Post := by
  have hI0 := hI
  obtain ⟨hC, hV, ⟨f0, h547⟩, hG, hO, hU, h548, hnx⟩ := hI
  have hb2 := wB_lt hn
  obtain ⟨r, ν', e1, e2, e4, e6⟩ := T_errorCode hG
  refine Ev.room (mc := mc) (ms := ms) ?_ (by omega) (by omega)
  refine ev_aload_n (k0 := 1) rfl d_law_462 ?_
  refine Ev.z9 (cv_V (d := d + 39) [] hC v_12 rfl lk_ProphecyShopLaw_148 (w_P_errorCode (d + 39) hC e1) rfl rfl d_law_463 (aft_ro ?_))
  refine ev_aload_n (k0 := 2) rfl d_law_466 ?_
  refine Ev.z9 (cv_V (d := d + 39) [] hV v_13 rfl lk_ProphecyShopLaw_151 (w_R_errorCode (d + 39) hV e2) rfl rfl d_law_467 (aft_rw (fun G2 hG2 => ?_)))
  obtain ⟨hI2, -⟩ := hI0.step hn (hC.same h547) (Nat.le_refl _) (Nat.le_add_right _ _) hG2 e4 rfl e6
  exact ev_icmp_eq (tgt := 2750) (by decide) d_law_470 (fun _ => hk hI2) (fun z => absurd rfl z)
theorem C_5 (hs : g.2.2.2.2.2 90 = some (true, 0, L, fun q => .inl (.int (xs q)))) (hL : L ≤ 3584) (hi : i + 7 ≤ L) (hn : n < 512) (hS : SG g) (hD : DG g) (hI : wLI μ ν l G nx n) (hk : wKN g (d + 40) i n mc ms Post) : Ev g (d + 40) m_law 475 (wLS i) [] (G, nx) (60 + mc) (7000 + ms) Post := by
  have hI0 := hI
  obtain ⟨hC, hV, ⟨f0, h547⟩, hG, hO, hU, h548, hnx⟩ := hI
  have hb2 := wB_lt hn
  obtain ⟨r, ν', e1, e2, e4, e6⟩ := T_errorPosition hG
  refine Ev.room (mc := mc) (ms := ms) ?_ (by omega) (by omega)
  refine ev_aload_n (k0 := 1) rfl d_law_475 ?_
  refine Ev.z9 (cv_V (d := d + 39) [] hC v_12 rfl lk_ProphecyShopLaw_152 (w_P_errorPosition (d + 39) hC e1) rfl rfl d_law_476 (aft_ro ?_))
  refine ev_aload_n (k0 := 2) rfl d_law_479 ?_
  refine Ev.z9 (cv_V (d := d + 39) [] hV v_13 rfl lk_ProphecyShopLaw_155 (w_R_errorPosition (d + 39) hV e2) rfl rfl d_law_480 (aft_rw (fun G2 hG2 => ?_)))
  obtain ⟨hI2, -⟩ := hI0.step hn (hC.same h547) (Nat.le_refl _) (Nat.le_add_right _ _) hG2 e4 rfl e6
  exact ev_icmp_eq (tgt := 2750) (by decide) d_law_483 (fun _ => hk hI2) (fun z => absurd rfl z)
theorem C_6 (hs : g.2.2.2.2.2 90 = some (true, 0, L, fun q => .inl (.int (xs q)))) (hL : L ≤ 3584) (hi : i + 7 ≤ L) (hn : n < 512) (hS : SG g) (hD : DG g) (hI : wLI μ ν l G nx n) (hk : wKN g (d + 40) i n mc ms Post) : Ev g (d + 40) m_law 488 (wLS i) [] (G, nx) (60 + mc) (7000 + ms) Post := by
  have hI0 := hI
  obtain ⟨hC, hV, ⟨f0, h547⟩, hG, hO, hU, h548, hnx⟩ := hI
  have hb2 := wB_lt hn
  obtain ⟨r, ν', e1, e2, e4, e6⟩ := T_day hG
  refine Ev.room (mc := mc) (ms := ms) ?_ (by omega) (by omega)
  refine ev_aload_n (k0 := 1) rfl d_law_488 ?_
  refine Ev.z9 (cv_V (d := d + 39) [] hC v_12 rfl lk_ProphecyShopLaw_156 (w_P_day (d + 39) hC e1) rfl rfl d_law_489 (aft_ro ?_))
  refine ev_aload_n (k0 := 2) rfl d_law_492 ?_
  refine Ev.z9 (cv_V (d := d + 39) [] hV v_13 rfl lk_ProphecyShopLaw_159 (w_R_day (d + 38) hV e2) rfl rfl d_law_493 (aft_rw (fun G2 hG2 => ?_)))
  obtain ⟨hI2, -⟩ := hI0.step hn (hC.same h547) (Nat.le_refl _) (Nat.le_add_right _ _) hG2 e4 rfl e6
  exact ev_icmp_eq (tgt := 2750) (by decide) d_law_496 (fun _ => hk hI2) (fun z => absurd rfl z)
theorem C_7 (hs : g.2.2.2.2.2 90 = some (true, 0, L, fun q => .inl (.int (xs q)))) (hL : L ≤ 3584) (hi : i + 7 ≤ L) (hn : n < 512) (hS : SG g) (hD : DG g) (hI : wLI μ ν l G nx n) (hk : wKN g (d + 40) i n mc ms Post) : Ev g (d + 40) m_law 501 (wLS i) [] (G, nx) (60 + mc) (7000 + ms) Post := by
  have hI0 := hI
  obtain ⟨hC, hV, ⟨f0, h547⟩, hG, hO, hU, h548, hnx⟩ := hI
  have hb2 := wB_lt hn
  obtain ⟨r, ν', e1, e2, e4, e6⟩ := T_cash hG
  refine Ev.room (mc := mc) (ms := ms) ?_ (by omega) (by omega)
  refine ev_aload_n (k0 := 1) rfl d_law_501 ?_
  refine Ev.z9 (cv_V (d := d + 39) [] hC v_12 rfl lk_ProphecyShopLaw_160 (w_P_cash (d + 39) hC e1) rfl rfl d_law_502 (aft_ro ?_))
  refine ev_aload_n (k0 := 2) rfl d_law_505 ?_
  refine Ev.z9 (cv_V (d := d + 39) [] hV v_13 rfl lk_ProphecyShopLaw_163 (w_R_cash (d + 38) hV e2) rfl rfl d_law_506 (aft_rw (fun G2 hG2 => ?_)))
  obtain ⟨hI2, -⟩ := hI0.step hn (hC.same h547) (Nat.le_refl _) (Nat.le_add_right _ _) hG2 e4 rfl e6
  exact ev_icmp_eq (tgt := 2750) (by decide) d_law_509 (fun _ => hk hI2) (fun z => absurd rfl z)
theorem C_8 (hs : g.2.2.2.2.2 90 = some (true, 0, L, fun q => .inl (.int (xs q)))) (hL : L ≤ 3584) (hi : i + 7 ≤ L) (hn : n < 512) (hS : SG g) (hD : DG g) (hI : wLI μ ν l G nx n) (hk : wKN g (d + 40) i n mc ms Post) : Ev g (d + 40) m_law 514 (wLS i) [] (G, nx) (60 + mc) (7000 + ms) Post := by
  have hI0 := hI
  obtain ⟨hC, hV, ⟨f0, h547⟩, hG, hO, hU, h548, hnx⟩ := hI
  have hb2 := wB_lt hn
  obtain ⟨r, ν', e1, e2, e4, e6⟩ := T_eventCount hG
  refine Ev.room (mc := mc) (ms := ms) ?_ (by omega) (by omega)
  refine ev_aload_n (k0 := 1) rfl d_law_514 ?_
  refine Ev.z9 (cv_V (d := d + 39) [] hC v_12 rfl lk_ProphecyShopLaw_164 (w_P_eventCount (d + 39) hC e1) rfl rfl d_law_515 (aft_ro ?_))
  refine ev_aload_n (k0 := 2) rfl d_law_518 ?_
  refine Ev.z9 (cv_V (d := d + 39) [] hV v_13 rfl lk_ProphecyShopLaw_167 (w_R_eventCount (d + 38) hV e2) rfl rfl d_law_519 (aft_rw (fun G2 hG2 => ?_)))
  obtain ⟨hI2, -⟩ := hI0.step hn (hC.same h547) (Nat.le_refl _) (Nat.le_add_right _ _) hG2 e4 rfl e6
  exact ev_icmp_eq (tgt := 2750) (by decide) d_law_522 (fun _ => hk hI2) (fun z => absurd rfl z)
theorem C_9 (hs : g.2.2.2.2.2 90 = some (true, 0, L, fun q => .inl (.int (xs q)))) (hL : L ≤ 3584) (hi : i + 7 ≤ L) (hn : n < 512) (hS : SG g) (hD : DG g) (hI : wLI μ ν l G nx n) (hk : wKN g (d + 40) i n mc ms Post) : Ev g (d + 40) m_law 527 (wLS i) [] (G, nx) (60 + mc) (7000 + ms) Post := by
  have hI0 := hI
  obtain ⟨hC, hV, ⟨f0, h547⟩, hG, hO, hU, h548, hnx⟩ := hI
  have hb2 := wB_lt hn
  obtain ⟨r, ν', e1, e2, e4, e6⟩ := T_placeCount hG
  refine Ev.room (mc := mc) (ms := ms) ?_ (by omega) (by omega)
  refine ev_aload_n (k0 := 1) rfl d_law_527 ?_
  refine Ev.z9 (cv_V (d := d + 39) [] hC v_12 rfl lk_ProphecyShopLaw_168 (w_P_placeCount (d + 39) hC e1) rfl rfl d_law_528 (aft_ro ?_))
  refine ev_aload_n (k0 := 2) rfl d_law_531 ?_
  refine Ev.z9 (cv_V (d := d + 39) [] hV v_13 rfl lk_ProphecyShopLaw_171 (w_R_placeCount (d + 38) hV e2) rfl rfl d_law_532 (aft_rw (fun G2 hG2 => ?_)))
  obtain ⟨hI2, -⟩ := hI0.step hn (hC.same h547) (Nat.le_refl _) (Nat.le_add_right _ _) hG2 e4 rfl e6
  exact ev_icmp_eq (tgt := 2750) (by decide) d_law_535 (fun _ => hk hI2) (fun z => absurd rfl z)
theorem C_10 (hs : g.2.2.2.2.2 90 = some (true, 0, L, fun q => .inl (.int (xs q)))) (hL : L ≤ 3584) (hi : i + 7 ≤ L) (hn : n < 512) (hS : SG g) (hD : DG g) (hI : wLI μ ν l G nx n) (hk : wKN g (d + 40) i n mc ms Post) : Ev g (d + 40) m_law 540 (wLS i) [] (G, nx) (60 + mc) (7000 + ms) Post := by
  have hI0 := hI
  obtain ⟨hC, hV, ⟨f0, h547⟩, hG, hO, hU, h548, hnx⟩ := hI
  have hb2 := wB_lt hn
  obtain ⟨r, ν', e1, e2, e4, e6⟩ := T_customerCount hG
  refine Ev.room (mc := mc) (ms := ms) ?_ (by omega) (by omega)
  refine ev_aload_n (k0 := 1) rfl d_law_540 ?_
  refine Ev.z9 (cv_V (d := d + 39) [] hC v_12 rfl lk_ProphecyShopLaw_172 (w_P_customerCount (d + 39) hC e1) rfl rfl d_law_541 (aft_ro ?_))
  refine ev_aload_n (k0 := 2) rfl d_law_544 ?_
  refine Ev.z9 (cv_V (d := d + 39) [] hV v_13 rfl lk_ProphecyShopLaw_175 (w_R_customerCount (d + 38) hV e2) rfl rfl d_law_545 (aft_rw (fun G2 hG2 => ?_)))
  obtain ⟨hI2, -⟩ := hI0.step hn (hC.same h547) (Nat.le_refl _) (Nat.le_add_right _ _) hG2 e4 rfl e6
  exact ev_icmp_eq (tgt := 2750) (by decide) d_law_548 (fun _ => hk hI2) (fun z => absurd rfl z)
theorem C_11 (hs : g.2.2.2.2.2 90 = some (true, 0, L, fun q => .inl (.int (xs q)))) (hL : L ≤ 3584) (hi : i + 7 ≤ L) (hn : n < 512) (hS : SG g) (hD : DG g) (hI : wLI μ ν l G nx n) (hk : wKN g (d + 40) i n mc ms Post) : Ev g (d + 40) m_law 553 (wLS i) [] (G, nx) (60 + mc) (7000 + ms) Post := by
  have hI0 := hI
  obtain ⟨hC, hV, ⟨f0, h547⟩, hG, hO, hU, h548, hnx⟩ := hI
  have hb2 := wB_lt hn
  obtain ⟨r, ν', e1, e2, e4, e6⟩ := T_findCustomer hG
  refine Ev.room (mc := mc) (ms := ms) ?_ (by omega) (by omega)
  refine ev_aload_n (k0 := 1) rfl d_law_553 ?_
  refine Ev.z9 (cv_V (d := d + 39) [] hC v_12 rfl lk_ProphecyShopLaw_176 (w_P_findCustomer (d + 37) hC e1) rfl rfl d_law_554 (aft_ro ?_))
  refine ev_aload_n (k0 := 2) rfl d_law_557 ?_
  refine Ev.z9 (cv_V (d := d + 39) [] hV v_13 rfl lk_ProphecyShopLaw_179 (w_R_findCustomer (d + 37) hV e2) rfl rfl d_law_558 (aft_rw (fun G2 hG2 => ?_)))
  obtain ⟨hI2, -⟩ := hI0.step hn (hC.same h547) (Nat.le_refl _) (Nat.le_add_right _ _) hG2 e4 rfl e6
  exact ev_icmp_eq (tgt := 2750) (by decide) d_law_561 (fun _ => hk hI2) (fun z => absurd rfl z)
theorem ta_589 : TailI 589 2131 := ⟨d_law_589, d_law_591, d_law_592, d_law_595, d_law_597, d_law_602, d_law_604, d_law_607, d_law_608, d_law_609, d_law_610, d_law_612, d_law_613, d_law_614, d_law_619, by decide⟩
theorem C_12 (hs : g.2.2.2.2.2 90 = some (true, 0, L, fun q => .inl (.int (xs q)))) (hL : L ≤ 3584) (hi : i + 7 ≤ L) (hn : n < 512) (hS : SG g) (hD : DG g) (hI : wLI μ ν l G nx n) (hk : wKN g (d + 40) i n mc ms Post) : Ev g (d + 40) m_law 566 (wLS i) [] (G, nx) (60 + mc) (7000 + ms) Post := by
  have hI0 := hI
  obtain ⟨hC, hV, ⟨f0, h547⟩, hG, hO, hU, h548, hnx⟩ := hI
  have hb2 := wB_lt hn
  obtain ⟨o, r, ν', e1, e2, e3, e4, e6⟩ := T_purse hG (xs (i + 1))
  refine ev_aload_n (k0 := 1) rfl d_law_566 ?_
  refine ev_arg hs hL 1 (by omega) rfl rfl rfl d_law_567 d_law_568 d_law_570 d_law_571 d_law_572 ?_
  refine ev_aload_n (k0 := 3) rfl d_law_573 ?_
  refine Ev.room (mc := 1 + mc) (ms := 6 + ms) (ev_invSH (d := d + 39) (vs := [.inr (0, 0), .inl (.int (xs (i + 1))), .inr (0, 547)]) (st := []) (fun h => by cases h) lh_180 (LW_purse (d + 38) hC h547 e3 (Mt.ro hC (w_P_purse (d + 37) hC e1))) rfl (Nat.le_of_ble_eq_true rfl) d_law_574 (aft_wr (fun G1 n1 f hW q1 q2 q3 => ?_))) (by omega) (by omega)
  refine cw_istoreN 5 (ν' 13 0 7) rfl (wLS2 i (some (.inl (.int (ν' 13 0 7)))) none) d_law_577 rfl rfl rfl ?_
  refine ev_aload_n (k0 := 2) rfl d_law_579 ?_
  refine ev_arg hs hL 1 (by omega) rfl rfl rfl d_law_580 d_law_581 d_law_583 d_law_584 d_law_585 ?_
  have hV1 : LM vr 535 547 ν G1 G1 := hW.farR hV
  refine Ev.z9 (cv_V (d := d + 39) [.inl (.int (xs (i + 1)))] hV1 v_13 rfl lk_ProphecyShopLaw_182 (w_R_purse (d + 37) hV1 e2) rfl rfl d_law_586 (aft_rw (fun G2 hG2 => ?_)))
  obtain ⟨hI2, hC2⟩ := hI0.step hn hW q1 q2 hG2 e4 rfl e6
  exact law_tailI ta_589 hI2 hC2 rfl q3 hk
theorem ta_657 : TailI 657 2063 := ⟨d_law_657, d_law_659, d_law_660, d_law_663, d_law_665, d_law_670, d_law_672, d_law_675, d_law_676, d_law_677, d_law_678, d_law_680, d_law_681, d_law_682, d_law_687, by decide⟩
theorem C_13 (hs : g.2.2.2.2.2 90 = some (true, 0, L, fun q => .inl (.int (xs q)))) (hL : L ≤ 3584) (hi : i + 7 ≤ L) (hn : n < 512) (hS : SG g) (hD : DG g) (hI : wLI μ ν l G nx n) (hk : wKN g (d + 40) i n mc ms Post) : Ev g (d + 40) m_law 622 (wLS i) [] (G, nx) (60 + mc) (7000 + ms) Post := by
  have hI0 := hI
  obtain ⟨hC, hV, ⟨f0, h547⟩, hG, hO, hU, h548, hnx⟩ := hI
  have hb2 := wB_lt hn
  obtain ⟨o, r, ν', e1, e2, e3, e4, e6⟩ := T_timesHappened hG (xs (i + 1)) (xs (i + 2))
  refine ev_aload_n (k0 := 1) rfl d_law_622 ?_
  refine ev_arg hs hL 1 (by omega) rfl rfl rfl d_law_623 d_law_624 d_law_626 d_law_627 d_law_628 ?_
  refine ev_arg hs hL 2 (by omega) rfl rfl rfl d_law_629 d_law_630 d_law_632 d_law_633 d_law_634 ?_
  refine ev_aload_n (k0 := 3) rfl d_law_635 ?_
  refine Ev.room (mc := 1 + mc) (ms := 6 + ms) (ev_invSH (d := d + 39) (vs := [.inr (0, 0), .inl (.int (xs (i + 1))), .inl (.int (xs (i + 2))), .inr (0, 547)]) (st := []) (fun h => by cases h) lh_183 (LW_timesHappened (d + 38) hC h547 e3 (Mt.ro hC (w_P_timesHappened (d + 37) hC e1))) rfl (Nat.le_of_ble_eq_true rfl) d_law_636 (aft_wr (fun G1 n1 f hW q1 q2 q3 => ?_))) (by omega) (by omega)
  refine cw_istoreN 5 (ν' 13 0 7) rfl (wLS2 i (some (.inl (.int (ν' 13 0 7)))) none) d_law_639 rfl rfl rfl ?_
  refine ev_aload_n (k0 := 2) rfl d_law_641 ?_
  refine ev_arg hs hL 1 (by omega) rfl rfl rfl d_law_642 d_law_643 d_law_645 d_law_646 d_law_647 ?_
  refine ev_arg hs hL 2 (by omega) rfl rfl rfl d_law_648 d_law_649 d_law_651 d_law_652 d_law_653 ?_
  have hV1 : LM vr 535 547 ν G1 G1 := hW.farR hV
  refine Ev.z9 (cv_V (d := d + 39) [.inl (.int (xs (i + 1))), .inl (.int (xs (i + 2)))] hV1 v_13 rfl lk_ProphecyShopLaw_186 (w_R_timesHappened (d + 36) hV1 e2) rfl rfl d_law_654 (aft_rw (fun G2 hG2 => ?_)))
  obtain ⟨hI2, hC2⟩ := hI0.step hn hW q1 q2 hG2 e4 rfl e6
  exact law_tailI ta_657 hI2 hC2 rfl q3 hk
theorem ta_737 : TailB 737 1976 := ⟨d_law_737, d_law_739, d_law_740, d_law_743, d_law_745, d_law_750, d_law_752, d_law_755, d_law_756, d_law_757, d_law_758, d_law_760, d_law_763, d_law_764, d_law_767, d_law_768, d_law_769, d_law_774, by decide⟩
theorem C_14 (hs : g.2.2.2.2.2 90 = some (true, 0, L, fun q => .inl (.int (xs q)))) (hL : L ≤ 3584) (hi : i + 7 ≤ L) (hn : n < 512) (hS : SG g) (hD : DG g) (hI : wLI μ ν l G nx n) (hk : wKN g (d + 40) i n mc ms Post) : Ev g (d + 40) m_law 690 (wLS i) [] (G, nx) (60 + mc) (7000 + ms) Post := by
  have hI0 := hI
  obtain ⟨hC, hV, ⟨f0, h547⟩, hG, hO, hU, h548, hnx⟩ := hI
  have hb2 := wB_lt hn
  obtain ⟨o, r, ν', e1, e2, e3, e4, e6⟩ := T_hasHappened hG (xs (i + 1)) (xs (i + 2)) (xs (i + 3))
  refine ev_aload_n (k0 := 1) rfl d_law_690 ?_
  refine ev_arg hs hL 1 (by omega) rfl rfl rfl d_law_691 d_law_692 d_law_694 d_law_695 d_law_696 ?_
  refine ev_arg hs hL 2 (by omega) rfl rfl rfl d_law_697 d_law_698 d_law_700 d_law_701 d_law_702 ?_
  refine ev_arg hs hL 3 (by omega) rfl rfl rfl d_law_703 d_law_704 d_law_706 d_law_707 d_law_708 ?_
  refine ev_aload_n (k0 := 3) rfl d_law_709 ?_
  refine Ev.room (mc := 1 + mc) (ms := 6 + ms) (ev_invSH (d := d + 39) (vs := [.inr (0, 0), .inl (.int (xs (i + 1))), .inl (.int (xs (i + 2))), .inl (.int (xs (i + 3))), .inr (0, 547)]) (st := []) (fun h => by cases h) lh_187 (LW_hasHappened (d + 38) hC h547 e3 (Mt.ro hC (w_P_hasHappened (d + 37) hC e1))) rfl (Nat.le_of_ble_eq_true rfl) d_law_710 (aft_wr (fun G1 n1 f hW q1 q2 q3 => ?_))) (by omega) (by omega)
  refine cw_istoreN 5 (ν' 13 0 7) rfl (wLS2 i (some (.inl (.int (ν' 13 0 7)))) none) d_law_713 rfl rfl rfl ?_
  refine ev_aload_n (k0 := 2) rfl d_law_715 ?_
  refine ev_arg hs hL 1 (by omega) rfl rfl rfl d_law_716 d_law_717 d_law_719 d_law_720 d_law_721 ?_
  refine ev_arg hs hL 2 (by omega) rfl rfl rfl d_law_722 d_law_723 d_law_725 d_law_726 d_law_727 ?_
  refine ev_arg hs hL 3 (by omega) rfl rfl rfl d_law_728 d_law_729 d_law_731 d_law_732 d_law_733 ?_
  have hV1 : LM vr 535 547 ν G1 G1 := hW.farR hV
  refine Ev.z9 (cv_V (d := d + 39) [.inl (.int (xs (i + 1))), .inl (.int (xs (i + 2))), .inl (.int (xs (i + 3)))] hV1 v_13 rfl lk_ProphecyShopLaw_190 (w_R_hasHappened (d + 36) hV1 e2) rfl rfl d_law_734 (aft_rw (fun G2 hG2 => ?_)))
  obtain ⟨hI2, hC2⟩ := hI0.step hn hW q1 q2 hG2 e4 rfl e6
  exact law_tailB ta_737 hI2 hC2 rfl q3 hk
theorem C_15 (hs : g.2.2.2.2.2 90 = some (true, 0, L, fun q => .inl (.int (xs q)))) (hL : L ≤ 3584) (hi : i + 7 ≤ L) (hn : n < 512) (hS : SG g) (hD : DG g) (hI : wLI μ ν l G nx n) (hk : wKN g (d + 40) i n mc ms Post) : Ev g (d + 40) m_law 777 (wLS i) [] (G, nx) (60 + mc) (7000 + ms) Post := by
  have hI0 := hI
  obtain ⟨hC, hV, ⟨f0, h547⟩, hG, hO, hU, h548, hnx⟩ := hI
  have hb2 := wB_lt hn
  obtain ⟨r, ν', e1, e2, e4, e6⟩ := T_liveliestPlace hG
  refine Ev.room (mc := mc) (ms := ms) ?_ (by omega) (by omega)
  refine ev_aload_n (k0 := 1) rfl d_law_777 ?_
  refine Ev.z9 (cv_V (d := d + 39) [] hC v_12 rfl lk_ProphecyShopLaw_191 (w_P_liveliestPlace (d + 37) hC e1) rfl rfl d_law_778 (aft_ro ?_))
  refine ev_aload_n (k0 := 2) rfl d_law_781 ?_
  refine Ev.z9 (cv_V (d := d + 39) [] hV v_13 rfl lk_ProphecyShopLaw_194 (w_R_liveliestPlace (d + 36) hV e2) rfl rfl d_law_782 (aft_rw (fun G2 hG2 => ?_)))
  obtain ⟨hI2, -⟩ := hI0.step hn (hC.same h547) (Nat.le_refl _) (Nat.le_add_right _ _) hG2 e4 rfl e6
  exact ev_icmp_eq (tgt := 2750) (by decide) d_law_785 (fun _ => hk hI2) (fun z => absurd rfl z)
theorem C_16 (hs : g.2.2.2.2.2 90 = some (true, 0, L, fun q => .inl (.int (xs q)))) (hL : L ≤ 3584) (hi : i + 7 ≤ L) (hn : n < 512) (hS : SG g) (hD : DG g) (hI : wLI μ ν l G nx n) (hk : wKN g (d + 40) i n mc ms Post) : Ev g (d + 40) m_law 790 (wLS i) [] (G, nx) (60 + mc) (7000 + ms) Post := by
  have hI0 := hI
  obtain ⟨hC, hV, ⟨f0, h547⟩, hG, hO, hU, h548, hnx⟩ := hI
  have hb2 := wB_lt hn
  obtain ⟨r, ν', e1, e2, e4, e6⟩ := T_prophecyCount hG
  refine Ev.room (mc := mc) (ms := ms) ?_ (by omega) (by omega)
  refine ev_aload_n (k0 := 1) rfl d_law_790 ?_
  refine Ev.z9 (cv_V (d := d + 39) [] hC v_12 rfl lk_ProphecyShopLaw_195 (w_P_prophecyCount (d + 39) hC e1) rfl rfl d_law_791 (aft_ro ?_))
  refine ev_aload_n (k0 := 2) rfl d_law_794 ?_
  refine Ev.z9 (cv_V (d := d + 39) [] hV v_13 rfl lk_ProphecyShopLaw_198 (w_R_prophecyCount (d + 38) hV e2) rfl rfl d_law_795 (aft_rw (fun G2 hG2 => ?_)))
  obtain ⟨hI2, -⟩ := hI0.step hn (hC.same h547) (Nat.le_refl _) (Nat.le_add_right _ _) hG2 e4 rfl e6
  exact ev_icmp_eq (tgt := 2750) (by decide) d_law_798 (fun _ => hk hI2) (fun z => absurd rfl z)
theorem ta_826 : TailI 826 1894 := ⟨d_law_826, d_law_828, d_law_829, d_law_832, d_law_834, d_law_839, d_law_841, d_law_844, d_law_845, d_law_846, d_law_847, d_law_849, d_law_850, d_law_851, d_law_856, by decide⟩
theorem C_17 (hs : g.2.2.2.2.2 90 = some (true, 0, L, fun q => .inl (.int (xs q)))) (hL : L ≤ 3584) (hi : i + 7 ≤ L) (hn : n < 512) (hS : SG g) (hD : DG g) (hI : wLI μ ν l G nx n) (hk : wKN g (d + 40) i n mc ms Post) : Ev g (d + 40) m_law 803 (wLS i) [] (G, nx) (60 + mc) (7000 + ms) Post := by
  have hI0 := hI
  obtain ⟨hC, hV, ⟨f0, h547⟩, hG, hO, hU, h548, hnx⟩ := hI
  have hb2 := wB_lt hn
  obtain ⟨o, r, ν', e1, e2, e3, e4, e6⟩ := T_customerOf hG (xs (i + 1))
  refine ev_aload_n (k0 := 1) rfl d_law_803 ?_
  refine ev_arg hs hL 1 (by omega) rfl rfl rfl d_law_804 d_law_805 d_law_807 d_law_808 d_law_809 ?_
  refine ev_aload_n (k0 := 3) rfl d_law_810 ?_
  refine Ev.room (mc := 1 + mc) (ms := 6 + ms) (ev_invSH (d := d + 39) (vs := [.inr (0, 0), .inl (.int (xs (i + 1))), .inr (0, 547)]) (st := []) (fun h => by cases h) lh_199 (LW_customerOf (d + 38) hC h547 e3 (Mt.ro hC (w_P_customerOf (d + 35) hC e1))) rfl (Nat.le_of_ble_eq_true rfl) d_law_811 (aft_wr (fun G1 n1 f hW q1 q2 q3 => ?_))) (by omega) (by omega)
  refine cw_istoreN 5 (ν' 13 0 7) rfl (wLS2 i (some (.inl (.int (ν' 13 0 7)))) none) d_law_814 rfl rfl rfl ?_
  refine ev_aload_n (k0 := 2) rfl d_law_816 ?_
  refine ev_arg hs hL 1 (by omega) rfl rfl rfl d_law_817 d_law_818 d_law_820 d_law_821 d_law_822 ?_
  have hV1 : LM vr 535 547 ν G1 G1 := hW.farR hV
  refine Ev.z9 (cv_V (d := d + 39) [.inl (.int (xs (i + 1)))] hV1 v_13 rfl lk_ProphecyShopLaw_201 (w_R_customerOf (d + 36) hV1 e2) rfl rfl d_law_823 (aft_rw (fun G2 hG2 => ?_)))
  obtain ⟨hI2, hC2⟩ := hI0.step hn hW q1 q2 hG2 e4 rfl e6
  exact law_tailI ta_826 hI2 hC2 rfl q3 hk
theorem ta_882 : TailI 882 1838 := ⟨d_law_882, d_law_884, d_law_885, d_law_888, d_law_890, d_law_895, d_law_897, d_law_900, d_law_901, d_law_902, d_law_903, d_law_905, d_law_906, d_law_907, d_law_912, by decide⟩
theorem C_18 (hs : g.2.2.2.2.2 90 = some (true, 0, L, fun q => .inl (.int (xs q)))) (hL : L ≤ 3584) (hi : i + 7 ≤ L) (hn : n < 512) (hS : SG g) (hD : DG g) (hI : wLI μ ν l G nx n) (hk : wKN g (d + 40) i n mc ms Post) : Ev g (d + 40) m_law 859 (wLS i) [] (G, nx) (60 + mc) (7000 + ms) Post := by
  have hI0 := hI
  obtain ⟨hC, hV, ⟨f0, h547⟩, hG, hO, hU, h548, hnx⟩ := hI
  have hb2 := wB_lt hn
  obtain ⟨o, r, ν', e1, e2, e3, e4, e6⟩ := T_eventOf hG (xs (i + 1))
  refine ev_aload_n (k0 := 1) rfl d_law_859 ?_
  refine ev_arg hs hL 1 (by omega) rfl rfl rfl d_law_860 d_law_861 d_law_863 d_law_864 d_law_865 ?_
  refine ev_aload_n (k0 := 3) rfl d_law_866 ?_
  refine Ev.room (mc := 1 + mc) (ms := 6 + ms) (ev_invSH (d := d + 39) (vs := [.inr (0, 0), .inl (.int (xs (i + 1))), .inr (0, 547)]) (st := []) (fun h => by cases h) lh_202 (LW_eventOf (d + 38) hC h547 e3 (Mt.ro hC (w_P_eventOf (d + 35) hC e1))) rfl (Nat.le_of_ble_eq_true rfl) d_law_867 (aft_wr (fun G1 n1 f hW q1 q2 q3 => ?_))) (by omega) (by omega)
  refine cw_istoreN 5 (ν' 13 0 7) rfl (wLS2 i (some (.inl (.int (ν' 13 0 7)))) none) d_law_870 rfl rfl rfl ?_
  refine ev_aload_n (k0 := 2) rfl d_law_872 ?_
  refine ev_arg hs hL 1 (by omega) rfl rfl rfl d_law_873 d_law_874 d_law_876 d_law_877 d_law_878 ?_
  have hV1 : LM vr 535 547 ν G1 G1 := hW.farR hV
  refine Ev.z9 (cv_V (d := d + 39) [.inl (.int (xs (i + 1)))] hV1 v_13 rfl lk_ProphecyShopLaw_204 (w_R_eventOf (d + 36) hV1 e2) rfl rfl d_law_879 (aft_rw (fun G2 hG2 => ?_)))
  obtain ⟨hI2, hC2⟩ := hI0.step hn hW q1 q2 hG2 e4 rfl e6
  exact law_tailI ta_882 hI2 hC2 rfl q3 hk
theorem ta_938 : TailI 938 1782 := ⟨d_law_938, d_law_940, d_law_941, d_law_944, d_law_946, d_law_951, d_law_953, d_law_956, d_law_957, d_law_958, d_law_959, d_law_961, d_law_962, d_law_963, d_law_968, by decide⟩
theorem C_19 (hs : g.2.2.2.2.2 90 = some (true, 0, L, fun q => .inl (.int (xs q)))) (hL : L ≤ 3584) (hi : i + 7 ≤ L) (hn : n < 512) (hS : SG g) (hD : DG g) (hI : wLI μ ν l G nx n) (hk : wKN g (d + 40) i n mc ms Post) : Ev g (d + 40) m_law 915 (wLS i) [] (G, nx) (60 + mc) (7000 + ms) Post := by
  have hI0 := hI
  obtain ⟨hC, hV, ⟨f0, h547⟩, hG, hO, hU, h548, hnx⟩ := hI
  have hb2 := wB_lt hn
  obtain ⟨o, r, ν', e1, e2, e3, e4, e6⟩ := T_placeOf hG (xs (i + 1))
  refine ev_aload_n (k0 := 1) rfl d_law_915 ?_
  refine ev_arg hs hL 1 (by omega) rfl rfl rfl d_law_916 d_law_917 d_law_919 d_law_920 d_law_921 ?_
  refine ev_aload_n (k0 := 3) rfl d_law_922 ?_
  refine Ev.room (mc := 1 + mc) (ms := 6 + ms) (ev_invSH (d := d + 39) (vs := [.inr (0, 0), .inl (.int (xs (i + 1))), .inr (0, 547)]) (st := []) (fun h => by cases h) lh_205 (LW_placeOf (d + 38) hC h547 e3 (Mt.ro hC (w_P_placeOf (d + 35) hC e1))) rfl (Nat.le_of_ble_eq_true rfl) d_law_923 (aft_wr (fun G1 n1 f hW q1 q2 q3 => ?_))) (by omega) (by omega)
  refine cw_istoreN 5 (ν' 13 0 7) rfl (wLS2 i (some (.inl (.int (ν' 13 0 7)))) none) d_law_926 rfl rfl rfl ?_
  refine ev_aload_n (k0 := 2) rfl d_law_928 ?_
  refine ev_arg hs hL 1 (by omega) rfl rfl rfl d_law_929 d_law_930 d_law_932 d_law_933 d_law_934 ?_
  have hV1 : LM vr 535 547 ν G1 G1 := hW.farR hV
  refine Ev.z9 (cv_V (d := d + 39) [.inl (.int (xs (i + 1)))] hV1 v_13 rfl lk_ProphecyShopLaw_207 (w_R_placeOf (d + 36) hV1 e2) rfl rfl d_law_935 (aft_rw (fun G2 hG2 => ?_)))
  obtain ⟨hI2, hC2⟩ := hI0.step hn hW q1 q2 hG2 e4 rfl e6
  exact law_tailI ta_938 hI2 hC2 rfl q3 hk
end Cases

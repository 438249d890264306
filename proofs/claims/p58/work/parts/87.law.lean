/-! The law, from its first instruction. -/
set_option maxRecDepth 100000 in
set_option maxHeartbeats 1000000 in
theorem law_top (d : Nat) {g : GL} (hS : SG g) (hD : DG g) (hA : AR g) : Ev g (d + 12) m_law 0 [some (.inr (1, 90)), none, none, none, none, none, none, none, none] [] (fun _ => none, 0) 115000 4800000 pOK := by
  obtain ⟨er, m0, hm0, hC0⟩ := first_m
  refine Ev.room (mc := ((534 + ((20 + (400 + ((1900 * 50 + 16500) + 1))) + 1)) + 1)) (ms := ((8029 + ((425 + (110000 + ((78200 * 50 + 694900) + 52))) + 35)) + 13)) (ev_new (M := ((fun _ => none : RG), 0)) coC_12 cl_ProphecyShopLaw_30 in_ProphecyShop ii_ProphecyShop d_law_0 ?_) (by omega) (by omega)
  refine ev_dup rfl d_law_3 ?_
  refine ev_invI (d := d + 11) (mi := m_law) (pc := 4) (st := [.inr (0, 0)]) (mc := ((20 + (400 + ((1900 * 50 + 16500) + 1))) + 1)) (ms := ((425 + (110000 + ((78200 * 50 + 694900) + 52))) + 35)) (r := (0, 0)) (vs := []) lj_ProphecyShopLaw_392 (M_P_init d hS wrG_S hm0) rfl (Nat.le_of_ble_eq_true rfl) d_law_4 ⟨fun w9 M9 hP => ?_, fun E9 M9 hP => by obtain ⟨hv, -⟩ := hP; cases hv⟩
  obtain ⟨hw9, hG1, hn1⟩ := hP
  cases hw9
  obtain ⟨G1, nx1⟩ := M9
  replace hn1 : nx1 = 535 := hn1
  subst hn1
  replace hG1 : LM vc 0 535 m0 (fun _ => none) G1 := hG1
  refine cw_astoreN_n 1 [some (.inr (1, 90)), some (.inr (0, off 12 0)), none, none, none, none, none, none, none] d_law_7 rfl rfl rfl ?_
  refine ev_new (M := (G1, 535)) coC_13 cl_ProphecyShopLaw_55 in_Own ii_Own d_law_8 ?_
  refine ev_dup rfl d_law_11 ?_
  refine ev_invIN (d := d + 11) (mi := m_law) (pc := 12) (st := [.inr (0, 535)]) (mc := (400 + ((1900 * 50 + 16500) + 1))) (ms := (110000 + ((78200 * 50 + 694900) + 52))) (r := (0, 535)) (vs := []) ln_ProphecyShopLaw_393 (M_Own_init (d + 11) wrG_S) rfl (Nat.le_of_ble_eq_true rfl) d_law_12 ⟨fun w9 M9 hP => ?_, fun E9 M9 hP => by obtain ⟨hv, -⟩ := hP; cases hv⟩
  obtain ⟨hw9, hn2, hO2⟩ := hP
  cases hw9
  obtain ⟨G2, nx2⟩ := M9
  replace hn2 : nx2 = 556 := hn2
  subst hn2
  replace hO2 : LM (vo 535) 535 (535 + 21) z0M _ G2 := hO2
  have hG2 : LM vc 0 535 m0 G2 G2 := ⟨fun K j hv => (hO2.2 _ (Or.inl (okC.2 K j hv).2)).trans ((wrG_N (by have := (okC.2 K j hv).2; omega)).trans (hG1.1 K j hv)), fun _ _ => rfl⟩
  refine cw_astoreN_n 2 [some (.inr (1, 90)), some (.inr (0, off 12 0)), some (.inr (0, off 60 535)), none, none, none, none, none, none] d_law_15 rfl rfl rfl ?_
  refine ev_aload_n (k0 := 1) rfl d_law_16 ?_
  refine ev_aload_n (k0 := 2) rfl d_law_17 ?_
  refine ev_aload_n (k0 := 0) rfl d_law_18 ?_
  refine cw_S [.inr (0, off 12 0), .inr (0, off 60 535), .inr (1, 90)] (mc := ((1900 * 50 + 16500) + 1)) (ms := ((78200 * 50 + 694900) + 52)) lk_ProphecyShopLaw_394 (M_begins (d + 1) hS hD hA hG2 (LM.refl hO2) (by omega) hC0) rfl rfl d_law_19 ⟨fun w9 M9 hP => ?_, fun E9 M9 hP => by obtain ⟨hv, -⟩ := hP; cases hv⟩
  obtain ⟨hw9, s, E, P, C, O, c0, μ, v, hG3, hO3, ⟨hE1, hP1⟩, h12, hQ, hH, hn3, hx3⟩ := hP
  cases hw9
  obtain ⟨G3, nx3⟩ := M9
  replace hn3 : 556 ≤ nx3 := hn3
  replace hx3 : nx3 ≤ 556 + 400 := hx3
  replace hG3 : LM vc 0 535 μ G3 G3 := hG3
  replace hO3 : LM (vo 535) 535 (535 + 21) v G3 G3 := hO3
  refine ev_if_ne (tgt := 27) (by decide) d_law_22 (fun _ => ?_) (fun c => absurd c (by decide))
  refine cw_bipush 52 d_law_27 rfl ?_
  refine ev_newq (M := (G3, nx3)) (ei := 8) (n := 52) rfl cl_ProphecyShopLaw_55 ao_Own (by decide) rfl (by decide) d_law_29 ?_
  generalize hG4 : wrG G3 nx3 _ = G4
  have hne : ∀ q, q ≠ nx3 → G4 q = G3 q := fun q hq => by rw [← hG4, wrG_N hq]
  have hpa : G4 nx3 = some (true, 8, 52, fun _ => .inl .null) := by rw [← hG4]; exact wrG_S
  refine cw_astoreN_n 3 [some (.inr (1, 90)), some (.inr (0, off 12 0)), some (.inr (0, off 60 535)), some (.inr (0, nx3)), none, none, none, none, none] d_law_32 rfl rfl rfl ?_
  refine cw_iconst 0 d_law_33 rfl ?_
  refine cw_istoreN 4 0 rfl [some (.inr (1, 90)), some (.inr (0, off 12 0)), some (.inr (0, off 60 535)), some (.inr (0, nx3)), some (.inl (.int 0)), none, none, none, none] d_law_34 rfl rfl rfl ?_
  refine cw_iconst 0 d_law_36 rfl ?_
  refine cw_istoreN 5 0 rfl [some (.inr (1, 90)), some (.inr (0, off 12 0)), some (.inr (0, off 60 535)), some (.inr (0, nx3)), some (.inl (.int 0)), some (.inl (.int 0)), none, none, none] d_law_37 rfl rfl rfl ?_
  refine law_loop (pa := nx3) (d + 1) hD hS hA hE1 hP1 50 0 0 μ G4 (nx3 + 1) 535 v (fun _ => (0, v)) 0 0 0 0 rfl (Nat.le_refl _) (by omega) ?_ ?_ ⟨Nat.le_refl _, by omega, Or.inr (by omega)⟩ h12 hQ (by omega) (hH _) ⟨⟨by omega, by omega⟩, ⟨_, hpa, fun i hi => absurd hi (Nat.not_lt_zero _)⟩, fun i hi => absurd hi (Nat.not_lt_zero _)⟩
  · exact ⟨fun K j hv => (hne _ (by have := (okC.2 K j hv).2; omega)).trans (hG3.1 K j hv), fun _ _ => rfl⟩
  · exact KB.own (nx := nx3) (fun q _ h => hne q (by omega)) hO3 (Nat.le_refl _) (by omega)

/-! begins. -/
set_option maxHeartbeats 1000000 in
theorem M_begins (d : Nat) {g : GL} {n0 b s : Nat} {μ : Mem} {G : RG} (hS : SG g) (hD : DG g) (hA : AR g) (hG : LM vc 0 535 μ G G) (hO : LM (vo b) b (b + 21) z0M G G) (hb : 535 ≤ b ∧ b + 21 ≤ n0) (h0 : C00 s μ) : Mt g (d + 10) m_PL_begins [.inr (0, off 12 0), .inr (0, off 60 b), .inr (1, 90)] (G, n0) 400 110000 (pBG n0 b) := by
  refine Mt.of9 [some (.inr (0, off 12 0)), some (.inr (0, off 60 b)), some (.inr (1, 90)), none, none] (by decide +kernel) rfl rfl rfl rfl ?_
  refine ev_aload_n (k0 := 1) rfl d_PL_begins_0 ?_
  refine ev_aload_n (k0 := 2) rfl d_PL_begins_1 ?_
  refine cw_iconst 0 d_PL_begins_2 rfl ?_
  refine cw_bipush 120 d_PL_begins_3 rfl ?_
  refine Ev.z9 (cw_S [.inr (1, 90), .inl (.int 0), .inl (.int 120)] lk_ProphecyShopLaw_325 (M_pick (k := 0) (n := 120) (d + 8) hA (by omega) (by omega) (by omega)) rfl rfl d_PL_begins_5 ⟨fun w9 M9 hP => ?_, fun E9 M9 hP => by obtain ⟨-, j9, -, hv⟩ := hP; cases hv⟩)
  obtain ⟨hM9, a1, ga1, hv⟩ := hP
  subst hM9
  cases hv
  refine cv_putN (.inl (.int (nI a1))) (nI a1) hO okO vo_0 pn_244 rfl rfl okv_int d_PL_begins_8 (fun G1 hO1 => ?_)
  generalize hu1 : st3 z0M 60 b 0 (nI a1) = u1 at hO1
  refine ev_aload_n (k0 := 1) rfl d_PL_begins_11 ?_
  refine cw_iconst 1 d_PL_begins_12 rfl ?_
  refine ev_aload_n (k0 := 2) rfl d_PL_begins_13 ?_
  refine cw_iconst 1 d_PL_begins_14 rfl ?_
  refine cw_iconst 4 d_PL_begins_15 rfl ?_
  refine Ev.z9 (cw_S [.inr (1, 90), .inl (.int 1), .inl (.int 4)] lk_ProphecyShopLaw_325 (M_pick (k := 1) (n := 4) (d + 8) hA (by omega) (by omega) (by omega)) rfl rfl d_PL_begins_16 ⟨fun w9 M9 hP => ?_, fun E9 M9 hP => by obtain ⟨-, j9, -, hv⟩ := hP; cases hv⟩)
  obtain ⟨hM9, a20, ga20, hv⟩ := hP
  subst hM9
  cases hv
  refine ev_iadd d_PL_begins_19 ?_
  rw [show (1 : Int32) + nI a20 = nI (1 + a20) from nI_add 1 a20]
  obtain ⟨a2, ha2, ga2⟩ : ∃ z, z = 1 + a20 ∧ 1 ≤ z ∧ z ≤ 4 := ⟨_, rfl, by omega, by omega⟩
  rw [← ha2]
  refine cv_putN (.inl (.int (nI a2))) (nI a2) hO1 okO vo_0 pn_348 rfl rfl okv_int d_PL_begins_20 (fun G2 hO2 => ?_)
  generalize hu2 : st3 u1 60 b 1 (nI a2) = u2 at hO2
  refine ev_aload_n (k0 := 1) rfl d_PL_begins_23 ?_
  refine ev_aload_n (k0 := 2) rfl d_PL_begins_24 ?_
  refine cw_iconst 2 d_PL_begins_25 rfl ?_
  refine cw_bipush 20 d_PL_begins_26 rfl ?_
  refine Ev.z9 (cw_S [.inr (1, 90), .inl (.int 2), .inl (.int 20)] lk_ProphecyShopLaw_325 (M_pick (k := 2) (n := 20) (d + 8) hA (by omega) (by omega) (by omega)) rfl rfl d_PL_begins_28 ⟨fun w9 M9 hP => ?_, fun E9 M9 hP => by obtain ⟨-, j9, -, hv⟩ := hP; cases hv⟩)
  obtain ⟨hM9, a3, ga3, hv⟩ := hP
  subst hM9
  cases hv
  refine cv_putN (.inl (.int (nI a3))) (nI a3) hO2 okO vo_0 pn_351 rfl rfl okv_int d_PL_begins_31 (fun G3 hO3 => ?_)
  generalize hu3 : st3 u2 60 b 2 (nI a3) = u3 at hO3
  refine ev_aload_n (k0 := 1) rfl d_PL_begins_34 ?_
  refine ev_aload_n (k0 := 2) rfl d_PL_begins_35 ?_
  refine cw_iconst 3 d_PL_begins_36 rfl ?_
  refine cw_sipush 201 d_PL_begins_37 rfl ?_
  refine Ev.z9 (cw_S [.inr (1, 90), .inl (.int 3), .inl (.int 201)] lk_ProphecyShopLaw_325 (M_pick (k := 3) (n := 201) (d + 8) hA (by omega) (by omega) (by omega)) rfl rfl d_PL_begins_40 ⟨fun w9 M9 hP => ?_, fun E9 M9 hP => by obtain ⟨-, j9, -, hv⟩ := hP; cases hv⟩)
  obtain ⟨hM9, a4, ga4, hv⟩ := hP
  subst hM9
  cases hv
  refine cv_putN (.inl (.int (nI a4))) (nI a4) hO3 okO vo_0 pn_354 rfl rfl okv_int d_PL_begins_43 (fun G4 hO4 => ?_)
  generalize hu4 : st3 u3 60 b 3 (nI a4) = u4 at hO4
  refine ev_aload_n (k0 := 1) rfl d_PL_begins_46 ?_
  refine ev_aload_n (k0 := 2) rfl d_PL_begins_47 ?_
  refine cw_iconst 4 d_PL_begins_48 rfl ?_
  refine cw_sipush 201 d_PL_begins_49 rfl ?_
  refine Ev.z9 (cw_S [.inr (1, 90), .inl (.int 4), .inl (.int 201)] lk_ProphecyShopLaw_325 (M_pick (k := 4) (n := 201) (d + 8) hA (by omega) (by omega) (by omega)) rfl rfl d_PL_begins_52 ⟨fun w9 M9 hP => ?_, fun E9 M9 hP => by obtain ⟨-, j9, -, hv⟩ := hP; cases hv⟩)
  obtain ⟨hM9, a5, ga5, hv⟩ := hP
  subst hM9
  cases hv
  refine cv_putN (.inl (.int (nI a5))) (nI a5) hO4 okO vo_0 pn_357 rfl rfl okv_int d_PL_begins_55 (fun G5 hO5 => ?_)
  generalize hu5 : st3 u4 60 b 4 (nI a5) = u5 at hO5
  refine ev_aload_n (k0 := 1) rfl d_PL_begins_58 ?_
  refine cw_iconst 1 d_PL_begins_59 rfl ?_
  refine ev_aload_n (k0 := 2) rfl d_PL_begins_60 ?_
  refine cw_iconst 5 d_PL_begins_61 rfl ?_
  refine cw_bipush 6 d_PL_begins_62 rfl ?_
  refine Ev.z9 (cw_S [.inr (1, 90), .inl (.int 5), .inl (.int 6)] lk_ProphecyShopLaw_325 (M_pick (k := 5) (n := 6) (d + 8) hA (by omega) (by omega) (by omega)) rfl rfl d_PL_begins_64 ⟨fun w9 M9 hP => ?_, fun E9 M9 hP => by obtain ⟨-, j9, -, hv⟩ := hP; cases hv⟩)
  obtain ⟨hM9, E0, gE0, hv⟩ := hP
  subst hM9
  cases hv
  refine ev_iadd d_PL_begins_67 ?_
  rw [show (1 : Int32) + nI E0 = nI (1 + E0) from nI_add 1 E0]
  obtain ⟨E, hE, gE⟩ : ∃ z, z = 1 + E0 ∧ 1 ≤ z ∧ z ≤ 6 := ⟨_, rfl, by omega, by omega⟩
  rw [← hE]
  refine cv_putN (.inl (.int (nI E))) (nI E) hO5 okO vo_0 pn_165 rfl rfl okv_int d_PL_begins_68 (fun G6 hO6 => ?_)
  generalize hu6 : st3 u5 60 b 6 (nI E) = u6 at hO6
  refine ev_aload_n (k0 := 1) rfl d_PL_begins_71 ?_
  refine cw_iconst 1 d_PL_begins_72 rfl ?_
  refine ev_aload_n (k0 := 2) rfl d_PL_begins_73 ?_
  refine cw_bipush 6 d_PL_begins_74 rfl ?_
  refine cw_bipush 6 d_PL_begins_76 rfl ?_
  refine Ev.z9 (cw_S [.inr (1, 90), .inl (.int 6), .inl (.int 6)] lk_ProphecyShopLaw_325 (M_pick (k := 6) (n := 6) (d + 8) hA (by omega) (by omega) (by omega)) rfl rfl d_PL_begins_78 ⟨fun w9 M9 hP => ?_, fun E9 M9 hP => by obtain ⟨-, j9, -, hv⟩ := hP; cases hv⟩)
  obtain ⟨hM9, P0, gP0, hv⟩ := hP
  subst hM9
  cases hv
  refine ev_iadd d_PL_begins_81 ?_
  rw [show (1 : Int32) + nI P0 = nI (1 + P0) from nI_add 1 P0]
  obtain ⟨P, hP, gP⟩ : ∃ z, z = 1 + P0 ∧ 1 ≤ z ∧ z ≤ 6 := ⟨_, rfl, by omega, by omega⟩
  rw [← hP]
  refine cv_putN (.inl (.int (nI P))) (nI P) hO6 okO vo_0 pn_162 rfl rfl okv_int d_PL_begins_82 (fun G7 hO7 => ?_)
  generalize hu7 : st3 u6 60 b 7 (nI P) = u7 at hO7
  refine ev_aload_n (k0 := 1) rfl d_PL_begins_85 ?_
  refine ev_aload_n (k0 := 2) rfl d_PL_begins_86 ?_
  refine cw_bipush 7 d_PL_begins_87 rfl ?_
  refine cw_bipush 9 d_PL_begins_89 rfl ?_
  refine Ev.z9 (cw_S [.inr (1, 90), .inl (.int 7), .inl (.int 9)] lk_ProphecyShopLaw_325 (M_pick (k := 7) (n := 9) (d + 8) hA (by omega) (by omega) (by omega)) rfl rfl d_PL_begins_91 ⟨fun w9 M9 hP => ?_, fun E9 M9 hP => by obtain ⟨-, j9, -, hv⟩ := hP; cases hv⟩)
  obtain ⟨hM9, C, gC, hv⟩ := hP
  subst hM9
  cases hv
  refine cv_putN (.inl (.int (nI C))) (nI C) hO7 okO vo_0 pn_203 rfl rfl okv_int d_PL_begins_94 (fun G8 hO8 => ?_)
  generalize hu8 : st3 u7 60 b 8 (nI C) = u8 at hO8
  refine ev_aload_n (k0 := 1) rfl d_PL_begins_97 ?_
  refine ev_aload_n (k0 := 2) rfl d_PL_begins_98 ?_
  refine cw_bipush 8 d_PL_begins_99 rfl ?_
  refine cw_bipush 6 d_PL_begins_101 rfl ?_
  refine Ev.z9 (cw_S [.inr (1, 90), .inl (.int 8), .inl (.int 6)] lk_ProphecyShopLaw_325 (M_pick (k := 8) (n := 6) (d + 8) hA (by omega) (by omega) (by omega)) rfl rfl d_PL_begins_103 ⟨fun w9 M9 hP => ?_, fun E9 M9 hP => by obtain ⟨-, j9, -, hv⟩ := hP; cases hv⟩)
  obtain ⟨hM9, O, gO, hv⟩ := hP
  subst hM9
  cases hv
  refine cv_putN (.inl (.int (nI O))) (nI O) hO8 okO vo_0 pn_211 rfl rfl okv_int d_PL_begins_106 (fun G9 hO9 => ?_)
  generalize hu9 : st3 u8 60 b 9 (nI O) = u9 at hO9
  have hrow : u9 60 b = ua (ua (ua (ua (ua (ua (ua (ua (ua (z0M 60 b) 0 (nI a1)) 1 (nI a2)) 2 (nI a3)) 3 (nI a4)) 4 (nI a5)) 6 (nI E)) 7 (nI P)) 8 (nI C)) 9 (nI O) := by
    rw [← hu9, st3_ua, ← hu8, st3_ua, ← hu7, st3_ua, ← hu6, st3_ua, ← hu5, st3_ua, ← hu4, st3_ua, ← hu3, st3_ua, ← hu2, st3_ua, ← hu1, st3_ua]
  have hot : ∀ K, K ≠ 60 → u9 K = z0M K := fun K hK => by rw [← hu9, st3_K hK, ← hu8, st3_K hK, ← hu7, st3_K hK, ← hu6, st3_K hK, ← hu5, st3_K hK, ← hu4, st3_K hK, ← hu3, st3_K hK, ← hu2, st3_K hK, ← hu1, st3_K hK]
  have r0 : u9 60 b 0 = nI a1 := by rw [hrow, ua_N (by decide), ua_N (by decide), ua_N (by decide), ua_N (by decide), ua_N (by decide), ua_N (by decide), ua_N (by decide), ua_N (by decide), ua_S]
  have r1 : u9 60 b 1 = nI a2 := by rw [hrow, ua_N (by decide), ua_N (by decide), ua_N (by decide), ua_N (by decide), ua_N (by decide), ua_N (by decide), ua_N (by decide), ua_S]
  have r2 : u9 60 b 2 = nI a3 := by rw [hrow, ua_N (by decide), ua_N (by decide), ua_N (by decide), ua_N (by decide), ua_N (by decide), ua_N (by decide), ua_S]
  have r3 : u9 60 b 3 = nI a4 := by rw [hrow, ua_N (by decide), ua_N (by decide), ua_N (by decide), ua_N (by decide), ua_N (by decide), ua_S]
  have r4 : u9 60 b 4 = nI a5 := by rw [hrow, ua_N (by decide), ua_N (by decide), ua_N (by decide), ua_N (by decide), ua_S]
  have r6 : u9 60 b 6 = nI E := by rw [hrow, ua_N (by decide), ua_N (by decide), ua_N (by decide), ua_S]
  have r7 : u9 60 b 7 = nI P := by rw [hrow, ua_N (by decide), ua_N (by decide), ua_S]
  have r8 : u9 60 b 8 = nI C := by rw [hrow, ua_N (by decide), ua_S]
  have r9 : u9 60 b 9 = nI O := by rw [hrow, ua_S]
  have r5 : u9 60 b 5 = 0 := by rw [hrow, ua_N (by decide), ua_N (by decide), ua_N (by decide), ua_N (by decide), ua_N (by decide), ua_N (by decide), ua_N (by decide), ua_N (by decide), ua_N (by decide)]; rfl
  have r10 : u9 60 b 10 = 0 := by rw [hrow, ua_N (by decide), ua_N (by decide), ua_N (by decide), ua_N (by decide), ua_N (by decide), ua_N (by decide), ua_N (by decide), ua_N (by decide), ua_N (by decide)]; rfl
  have r11 : u9 60 b 11 = 0 := by rw [hrow, ua_N (by decide), ua_N (by decide), ua_N (by decide), ua_N (by decide), ua_N (by decide), ua_N (by decide), ua_N (by decide), ua_N (by decide), ua_N (by decide)]; rfl
  have r12 : u9 60 b 12 = 0 := by rw [hrow, ua_N (by decide), ua_N (by decide), ua_N (by decide), ua_N (by decide), ua_N (by decide), ua_N (by decide), ua_N (by decide), ua_N (by decide), ua_N (by decide)]; rfl
  have r13 : u9 60 b 13 = 0 := by rw [hrow, ua_N (by decide), ua_N (by decide), ua_N (by decide), ua_N (by decide), ua_N (by decide), ua_N (by decide), ua_N (by decide), ua_N (by decide), ua_N (by decide)]; rfl
  have r14 : u9 60 b 14 = 0 := by rw [hrow, ua_N (by decide), ua_N (by decide), ua_N (by decide), ua_N (by decide), ua_N (by decide), ua_N (by decide), ua_N (by decide), ua_N (by decide), ua_N (by decide)]; rfl
  have h1 : OW1 u9 b a1 a2 a3 a4 a5 E P C O := ⟨⟨r0, r1, r2, r3, r4, r6, r7, r8, r9⟩, ⟨r5, r10, r11, r12, r13, r14⟩, fun o => ⟨by rw [hot 64 (by decide)]; rfl, by rw [hot 65 (by decide)]; rfl⟩⟩
  have hG9 : LM vc 0 535 μ G9 G9 := own_vc hG hO9 hb.1
  have hO9 := LM.refl hO9
  have hw9 : wS.length = 5 := rfl
  have hd_a1 := dl_3 (v := a1) (by omega)
  have hd_a2 := dl_3 (v := a2) (by omega)
  have hd_a3 := dl_3 (v := a3) (by omega)
  have hd_a4 := dl_3 (v := a4) (by omega)
  have hd_a5 := dl_3 (v := a5) (by omega)
  refine Ev.room (mc := 2 + (10 + (9 * E + (9 * P + (13 * C + (3 * O + 2))))) + 1) (ms := wS.length + 16 + 2 * 400 + (8000 + (2472 * E + (2472 * P + (5672 * C + (2400 * O + 804))))) + 4) (ev_sbNewW (B := 400) (n0 := n0) (d := d + 2) (by decide) cl_ProphecyShopLaw_35 lj_ProphecyShopLaw_362 (SR.of hS (w := 22) (l := wS) (by decide) rfl wS_ok.lt) (by rw [hw9]; decide) (by rw [hw9]; decide) rfl d_PL_begins_109 d_PL_begins_112 (fun M mc9 ms9 h => ev_ldcwS (i := 22) (tx := "shop ") (by decide) d_PL_begins_113 h) d_PL_begins_116 (fun M9 b9 => ?_)) (by omega) (by omega)
  obtain ⟨G10, nx10⟩ := M9
  have hB10 : BS G10 nx10 n0 b 3 μ u9 wS := BS.new hG9 hO9 hb b9
  refine ev_aload_n (k0 := 1) rfl d_PL_begins_119 ?_
  refine cv_getN (.inl (.int (u9 60 b 0))) hB10.2.1 vo_0 gn_244 rfl rfl d_PL_begins_120 ?_
  rw [r0]
  refine Ev.room (mc := 1 + (9 + (9 * E + (9 * P + (13 * C + (3 * O + 2)))))) (ms := 2 * 400 + (7200 + (2472 * E + (2472 * P + (5672 * C + (2400 * O + 804)))))) (ev_appI (v := a1) (d := d + 5) hD hB10.2.2.2 lj_ProphecyShopLaw_87_1 (by omega) (by simp only [List.length_append, List.length_cons, List.length_nil, digs_len, hw9]; omega) rfl d_PL_begins_123 (fun M9 b9 => ?_)) (by omega) (by omega)
  obtain ⟨G11, nx11⟩ := M9
  have hB11 := hB10.app b9
  refine cw_bipush 32 d_PL_begins_126 rfl ?_
  refine Ev.room (mc := 1 + (8 + (9 * E + (9 * P + (13 * C + (3 * O + 2)))))) (ms := 2 * 400 + (6400 + (2472 * E + (2472 * P + (5672 * C + (2400 * O + 804)))))) (ev_appC (c := 32) (d := d + 5) hB11.2.2.2 lj_ProphecyShopLaw_41_1 (by omega) (by simp only [List.length_append, List.length_cons, List.length_nil, digs_len, hw9]; omega) rfl d_PL_begins_128 (fun M9 b9 => ?_)) (by omega) (by omega)
  obtain ⟨G12, nx12⟩ := M9
  have hB12 := hB11.app b9
  refine ev_aload_n (k0 := 1) rfl d_PL_begins_131 ?_
  refine cv_getN (.inl (.int (u9 60 b 1))) hB12.2.1 vo_0 gn_348 rfl rfl d_PL_begins_132 ?_
  rw [r1]
  refine Ev.room (mc := 1 + (7 + (9 * E + (9 * P + (13 * C + (3 * O + 2)))))) (ms := 2 * 400 + (5600 + (2472 * E + (2472 * P + (5672 * C + (2400 * O + 804)))))) (ev_appI (v := a2) (d := d + 5) hD hB12.2.2.2 lj_ProphecyShopLaw_87_1 (by omega) (by simp only [List.length_append, List.length_cons, List.length_nil, digs_len, hw9]; omega) rfl d_PL_begins_135 (fun M9 b9 => ?_)) (by omega) (by omega)
  obtain ⟨G13, nx13⟩ := M9
  have hB13 := hB12.app b9
  refine cw_bipush 32 d_PL_begins_138 rfl ?_
  refine Ev.room (mc := 1 + (6 + (9 * E + (9 * P + (13 * C + (3 * O + 2)))))) (ms := 2 * 400 + (4800 + (2472 * E + (2472 * P + (5672 * C + (2400 * O + 804)))))) (ev_appC (c := 32) (d := d + 5) hB13.2.2.2 lj_ProphecyShopLaw_41_1 (by omega) (by simp only [List.length_append, List.length_cons, List.length_nil, digs_len, hw9]; omega) rfl d_PL_begins_140 (fun M9 b9 => ?_)) (by omega) (by omega)
  obtain ⟨G14, nx14⟩ := M9
  have hB14 := hB13.app b9
  refine ev_aload_n (k0 := 1) rfl d_PL_begins_143 ?_
  refine cv_getN (.inl (.int (u9 60 b 2))) hB14.2.1 vo_0 gn_351 rfl rfl d_PL_begins_144 ?_
  rw [r2]
  refine Ev.room (mc := 1 + (5 + (9 * E + (9 * P + (13 * C + (3 * O + 2)))))) (ms := 2 * 400 + (4000 + (2472 * E + (2472 * P + (5672 * C + (2400 * O + 804)))))) (ev_appI (v := a3) (d := d + 5) hD hB14.2.2.2 lj_ProphecyShopLaw_87_1 (by omega) (by simp only [List.length_append, List.length_cons, List.length_nil, digs_len, hw9]; omega) rfl d_PL_begins_147 (fun M9 b9 => ?_)) (by omega) (by omega)
  obtain ⟨G15, nx15⟩ := M9
  have hB15 := hB14.app b9
  refine cw_bipush 32 d_PL_begins_150 rfl ?_
  refine Ev.room (mc := 1 + (4 + (9 * E + (9 * P + (13 * C + (3 * O + 2)))))) (ms := 2 * 400 + (3200 + (2472 * E + (2472 * P + (5672 * C + (2400 * O + 804)))))) (ev_appC (c := 32) (d := d + 5) hB15.2.2.2 lj_ProphecyShopLaw_41_1 (by omega) (by simp only [List.length_append, List.length_cons, List.length_nil, digs_len, hw9]; omega) rfl d_PL_begins_152 (fun M9 b9 => ?_)) (by omega) (by omega)
  obtain ⟨G16, nx16⟩ := M9
  have hB16 := hB15.app b9
  refine ev_aload_n (k0 := 1) rfl d_PL_begins_155 ?_
  refine cv_getN (.inl (.int (u9 60 b 3))) hB16.2.1 vo_0 gn_354 rfl rfl d_PL_begins_156 ?_
  rw [r3]
  refine Ev.room (mc := 1 + (3 + (9 * E + (9 * P + (13 * C + (3 * O + 2)))))) (ms := 2 * 400 + (2400 + (2472 * E + (2472 * P + (5672 * C + (2400 * O + 804)))))) (ev_appI (v := a4) (d := d + 5) hD hB16.2.2.2 lj_ProphecyShopLaw_87_1 (by omega) (by simp only [List.length_append, List.length_cons, List.length_nil, digs_len, hw9]; omega) rfl d_PL_begins_159 (fun M9 b9 => ?_)) (by omega) (by omega)
  obtain ⟨G17, nx17⟩ := M9
  have hB17 := hB16.app b9
  refine cw_bipush 32 d_PL_begins_162 rfl ?_
  refine Ev.room (mc := 1 + (2 + (9 * E + (9 * P + (13 * C + (3 * O + 2)))))) (ms := 2 * 400 + (1600 + (2472 * E + (2472 * P + (5672 * C + (2400 * O + 804)))))) (ev_appC (c := 32) (d := d + 5) hB17.2.2.2 lj_ProphecyShopLaw_41_1 (by omega) (by simp only [List.length_append, List.length_cons, List.length_nil, digs_len, hw9]; omega) rfl d_PL_begins_164 (fun M9 b9 => ?_)) (by omega) (by omega)
  obtain ⟨G18, nx18⟩ := M9
  have hB18 := hB17.app b9
  refine ev_aload_n (k0 := 1) rfl d_PL_begins_167 ?_
  refine cv_getN (.inl (.int (u9 60 b 4))) hB18.2.1 vo_0 gn_357 rfl rfl d_PL_begins_168 ?_
  rw [r4]
  refine Ev.room (mc := 1 + (1 + (9 * E + (9 * P + (13 * C + (3 * O + 2)))))) (ms := 2 * 400 + (800 + (2472 * E + (2472 * P + (5672 * C + (2400 * O + 804)))))) (ev_appI (v := a5) (d := d + 5) hD hB18.2.2.2 lj_ProphecyShopLaw_87_1 (by omega) (by simp only [List.length_append, List.length_cons, List.length_nil, digs_len, hw9]; omega) rfl d_PL_begins_171 (fun M9 b9 => ?_)) (by omega) (by omega)
  obtain ⟨G19, nx19⟩ := M9
  have hB19 := hB18.app b9
  refine cw_bipush 59 d_PL_begins_174 rfl ?_
  refine Ev.room (mc := 1 + (0 + (9 * E + (9 * P + (13 * C + (3 * O + 2)))))) (ms := 2 * 400 + (0 + (2472 * E + (2472 * P + (5672 * C + (2400 * O + 804)))))) (ev_appC (c := 59) (d := d + 5) hB19.2.2.2 lj_ProphecyShopLaw_41_1 (by omega) (by simp only [List.length_append, List.length_cons, List.length_nil, digs_len, hw9]; omega) rfl d_PL_begins_176 (fun M9 b9 => ?_)) (by omega) (by omega)
  obtain ⟨G20, nx20⟩ := M9
  have hB20 := hB19.app b9
  refine cw_astoreN_n 3 [some (.inr (0, off 12 0)), some (.inr (0, off 60 b)), some (.inr (1, 90)), some (.inr (0, n0)), none] d_PL_begins_179 rfl rfl rfl ?_
  refine cw_iconst 0 d_PL_begins_180 rfl ?_
  refine cw_istoreN 4 0 rfl [some (.inr (0, off 12 0)), some (.inr (0, off 60 b)), some (.inr (1, 90)), some (.inr (0, n0)), some (.inl (.int 0))] d_PL_begins_181 rfl rfl rfl ?_
  have hts := tsA_len (a1 := a1) (a2 := a2) (a3 := a3) (a4 := a4) (a5 := a5)
  have l1 := tnA_len (X := tsA a1 a2 a3 a4 a5) (w := wE) (p := 101) E
  have l2 := tnA_len (X := tnA (tsA a1 a2 a3 a4 a5) wE 101 E) (w := wP) (p := 112) P
  have hwE : wE.length = 6 := rfl
  have hwP : wP.length = 6 := rfl
  rw [hwE] at l1
  rw [hwP] at l2
  replace hB20 : BS G20 nx20 n0 b 13 μ u9 (tsA a1 a2 a3 a4 a5) := BS.le hB20 (by omega)
  refine Ev.room (mc := 9 * E + (9 * P + (13 * C + (3 * O + 2)))) (ms := 2472 * E + (2472 * P + (5672 * C + (2400 * O + 804)))) (beg_ev (bb := 13) (X := tsA a1 a2 a3 a4 a5) (mc := (9 * P + (13 * C + (3 * O + 2)))) (ms := (2472 * P + (5672 * C + (2400 * O + 804)))) d hS (by omega) gE.2 r6 (fun G1 nx1 hB1 => ?_) E 0 G20 nx20 (by omega) hB20) (by omega) (by omega)
  refine cw_iconst 0 d_PL_begins_221 rfl ?_
  refine cw_istoreN 4 0 rfl [some (.inr (0, off 12 0)), some (.inr (0, off 60 b)), some (.inr (1, 90)), some (.inr (0, n0)), some (.inl (.int 0))] d_PL_begins_222 rfl rfl rfl ?_
  refine Ev.room (mc := 9 * P + (13 * C + (3 * O + 2))) (ms := 2472 * P + (5672 * C + (2400 * O + 804))) (beg_pl (bb := 13 + 9 * E) (X := tnA (tsA a1 a2 a3 a4 a5) wE 101 E) (mc := (13 * C + (3 * O + 2))) (ms := (5672 * C + (2400 * O + 804))) d hS (by omega) gP.2 r7 (fun G2 nx2 hB2 => ?_) P 0 G1 nx1 (by omega) hB1) (by omega) (by omega)
  refine cw_iconst 0 d_PL_begins_262 rfl ?_
  refine cw_istoreN 4 0 rfl [some (.inr (0, off 12 0)), some (.inr (0, off 60 b)), some (.inr (1, 90)), some (.inr (0, n0)), some (.inl (.int 0))] d_PL_begins_263 rfl rfl rfl ?_
  refine Ev.room (mc := 13 * C + (3 * O + 2)) (ms := 5672 * C + (2400 * O + 804)) (beg_cu (bb := 13 + 9 * E + 9 * P) (X := tnA (tnA (tsA a1 a2 a3 a4 a5) wE 101 E) wP 112 P) (mc := (3 * O + 2)) (ms := (2400 * O + 804)) d hS hD hA (by omega) (by omega) r8 (fun G3 nx3 v3 pu fa hB3 hU3 hF3 => ?_) C 0 G2 nx2 u9 (fun _ => 0) (fun _ => 0) (by omega) hB2 (fun i hi => absurd hi (Nat.not_lt_zero _)) (fun _ _ _ => rfl)) (by omega) (by omega)
  refine cw_iconst 0 d_PL_begins_376 rfl ?_
  refine cw_istoreN 4 0 rfl [some (.inr (0, off 12 0)), some (.inr (0, off 60 b)), some (.inr (1, 90)), some (.inr (0, n0)), some (.inl (.int 0))] d_PL_begins_377 rfl rfl rfl ?_
  have l3 := tcA_len (X := tnA (tnA (tsA a1 a2 a3 a4 a5) wE 101 E) wP 112 P) (pu := pu) (fa := fa) C (fun i hi => ⟨by have := hU3 i hi; omega, by have := hU3 i hi; omega⟩)
  have h3 := h1.fr hF3 (by decide) (by decide)
  have r9b : v3 60 b 9 = nI O := h3.1.2.2.2.2.2.2.2.2
  refine Ev.room (mc := 3 * O + 2) (ms := 2400 * O + 804) (beg_ow (bb := 13 + 9 * E + 9 * P + 13 * C) (X := tcA (tnA (tnA (tsA a1 a2 a3 a4 a5) wE 101 E) wP 112 P) pu fa C) (mc := 2) (ms := 804) d hS hD hA (by omega) (by omega) r9b (fun G4 nx4 v4 sp hB4 hU4 hF4 => ?_) O 0 G3 nx3 v3 (fun _ => 0) (by omega) hB3 (fun i hi => absurd hi (Nat.not_lt_zero _)) (fun _ _ _ => rfl)) (by omega) (by omega)
  have l4 := toA_len (X := tcA (tnA (tnA (tsA a1 a2 a3 a4 a5) wE 101 E) wP 112 P) pu fa C) (sp := sp) O (fun i hi => by have := hU4 i hi; omega)
  have hU4c : CU v4 b C pu fa := fun i hi => by rw [hF4 61 (by decide) (by decide), hF4 62 (by decide) (by decide)]; exact hU3 i hi
  exact beg_end d hS hB4 (by omega) (by show (toA _ _ _).length ≤ 400; omega) h0 (h3.fr hF4 (by decide) (by decide)) hU4c hU4 ⟨⟨by omega, by omega, by omega, by omega, by omega⟩, by omega, by omega, by omega, by omega⟩

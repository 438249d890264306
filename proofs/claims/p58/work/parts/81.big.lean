/-! The constructors of SetupReader, Script, Shop. -/
section Big
variable {g : GL} {G : RG} {o : Nat}
theorem M_SetupReader_init (d : Nat) {t : Nat × Nat} {f : Nat → RV} (ho : G o = some (false, 8, 0, f)) : Mt g (d + 1) m_SetupReader_init [.inr (0, o), .inr t] (G, o + 1) 0 0 (PI G o 1 (fun _ => readerC 8 t)) := by
  refine Mt.of9 [some (.inr (0, o)), some (.inr t)] (by decide +kernel) rfl rfl rfl rfl ?_
  refine ev_aload_n (k0 := 0) rfl d_SetupReader_init_0 ?_
  refine ev_aload_n (k0 := 1) rfl d_SetupReader_init_1 ?_
  refine Ev.z9 (ev_invI (d := d) (vs := [.inr t]) lj_SetupReader_3 (M_Reader_init_8 d (nx := o + 1) ho) rfl (Nat.le_of_ble_eq_true rfl) d_SetupReader_init_2 ⟨fun v M' hP => ?_, fun E M' hP => by obtain ⟨h9, -⟩ := hP; cases h9⟩)
  obtain ⟨hv, hM, hR, hF⟩ := hP
  cases hv
  obtain ⟨G1, nx1⟩ := M'
  replace hM : nx1 = o + 1 := hM
  subst hM
  refine ev_return (st := []) rfl d_SetupReader_init_5 ⟨rfl, rfl, fun i hi => ?_, fun q hq => hF q (by omega)⟩
  obtain rfl : i = 0 := by omega
  exact ⟨_, hR, rfl, rfl, rfl, fun k hk => by
      replace hk : k < 6 := hk
      rcases (show k = 0 ∨ k = 1 ∨ k = 2 ∨ k = 3 ∨ k = 4 ∨ k = 5 by omega) with rfl | rfl | rfl | rfl | rfl | rfl <;> rfl⟩
set_option maxRecDepth 100000 in
set_option maxHeartbeats 4000000 in
theorem M_Script_init (d : Nat) {t : Nat × Nat} {f : Nat → RV} (ho : G o = some (false, 6, 0, f)) : Mt g (d + 1) m_Script_init [.inr (0, o), .inr t] (G, o + 1) 62 722 (PI G o 63 (scriptC o t)) := by
  refine Mt.of9 [some (.inr (0, o)), some (.inr t), none] (by decide +kernel) rfl rfl rfl rfl ?_
  refine ev_aload_n (k0 := 0) rfl d_Script_init_0 ?_
  refine ev_aload_n (k0 := 1) rfl d_Script_init_1 ?_
  refine Ev.z9 (ev_invI (d := d) (vs := [.inr t]) lj_Script_3 (M_Reader_init_6 d (nx := o + 1) ho) rfl (Nat.le_of_ble_eq_true rfl) d_Script_init_2 ⟨fun v M' hP => ?_, fun E M' hP => by obtain ⟨h9, -⟩ := hP; cases h9⟩)
  obtain ⟨hv, hM, hR, hF⟩ := hP
  cases hv
  obtain ⟨G1, nx1⟩ := M'
  replace hM : nx1 = o + 1 := hM
  subst hM
  refine ev_aload_n (k0 := 0) rfl d_Script_init_5 ?_
  refine cw_bipush 60 d_Script_init_6 rfl ?_
  refine Ev.room (mc := 61 + 1) (ms := 662 + 60) (ev_newq (M := (G, 0)) (ei := 6) (n := 60) rfl cl_Script_11 ao_Step (by decide) (by decide) (by decide) d_Script_init_8 ?_) (by omega) (by omega)
  refine ev_putfF (M := (G, 0)) fl_Script_13_6 rfl ((wrG_N (by omega)).trans (hR)) (show okv g (.array (.object "ProphecyShop$Step")) _ from okv_arr) d_Script_init_11 ?_
  refine ev_aload_n (k0 := 0) rfl d_Script_init_14 ?_
  refine cw_iconst 0 d_Script_init_15 rfl ?_
  refine ev_putf (M := (G, 0)) fl_Script_17_6 (wrG_S) (show okv g .int _ from okv_int) d_Script_init_16 ?_
  refine ev_aload_n (k0 := 0) rfl d_Script_init_19 ?_
  refine cw_iconst 0 d_Script_init_20 rfl ?_
  refine ev_putf (M := (G, 0)) fl_Script_21_6 (wrG_S) (show okv g .int _ from okv_int) d_Script_init_21 ?_
  refine ev_aload_n (k0 := 0) rfl d_Script_init_24 ?_
  refine cw_iconst 2 d_Script_init_25 rfl ?_
  refine Ev.room (mc := 60 + 1) (ms := 660 + 2) (ev_newa (M := (G, 0)) (ei := 0) (n := 2) (at0 := .int) (ty := .int) rfl rfl (by decide) ac_int (by decide) (by decide) (by decide) d_Script_init_26 ?_) (by omega) (by omega)
  refine ev_putfF (M := (G, 0)) fl_Script_24_6 rfl ((wrG_N (by omega)).trans (wrG_S)) (show okv g (.array .int) _ from okv_arr) d_Script_init_28 ?_
  refine ev_aload_n (k0 := 0) rfl d_Script_init_31 ?_
  refine cw_iconst 0 d_Script_init_32 rfl ?_
  refine ev_putf (M := (G, 0)) fl_Script_28_6 (wrG_S) (show okv g .int _ from okv_int) d_Script_init_33 ?_
  refine cw_iconst 0 d_Script_init_36 rfl ?_
  refine cw_istoreN_n 2 0 rfl [some (.inr (0, o)), some (.inr t), some (.inl (.int 0))] d_Script_init_37 rfl rfl rfl ?_
  refine Ev.room (L_script d (t := t) (a := o + 1) (base := o + 3) (wrG_S) rfl (by omega) (by omega) (by omega) 60 0 _ (by omega) (FILL.zero ((wrG_N (by omega)).trans ((wrG_N (by omega)).trans ((wrG_N (by omega)).trans ((wrG_N (by omega)).trans ((wrG_N (by omega)).trans ((wrG_N (by omega)).trans (wrG_S)))))))) 0 0 _ (fun G3 hF3 => ?_)) (by omega) (by omega)
  obtain ⟨⟨h, h1, h2⟩, hA, hfr⟩ := hF3
  refine ev_return (st := []) rfl d_Script_init_63 ⟨rfl, rfl, fun i hi => ?_, fun q hq => (hfr q (by omega) (by omega)).trans ((wrG_N (by omega)).trans ((wrG_N (by omega)).trans ((wrG_N (by omega)).trans ((wrG_N (by omega)).trans ((wrG_N (by omega)).trans ((wrG_N (by omega)).trans ((wrG_N (by omega)).trans (hF q (by omega)))))))))⟩
  by_cases e : i < 3
  · rcases (show i = 0 ∨ i = 1 ∨ i = 2 by omega) with rfl | rfl | rfl
    · exact ⟨_, (hfr o (by omega) (by omega)).trans (wrG_S), rfl, rfl, rfl, fun k hk => by
      replace hk : k < 11 := hk
      rcases (show k = 0 ∨ k = 1 ∨ k = 2 ∨ k = 3 ∨ k = 4 ∨ k = 5 ∨ k = 6 ∨ k = 7 ∨ k = 8 ∨ k = 9 ∨ k = 10 by omega) with rfl | rfl | rfl | rfl | rfl | rfl | rfl | rfl | rfl | rfl | rfl <;> rfl⟩
    · exact ⟨_, h1, rfl, rfl, rfl, fun k hk => h2 k hk⟩
    · exact ⟨_, (hfr (o + 2) (by omega) (by omega)).trans ((wrG_N (by omega)).trans ((wrG_N (by omega)).trans (wrG_S))), CE.rf⟩
  · obtain ⟨p, rfl⟩ : ∃ p, i = p + 3 := ⟨i - 3, by omega⟩
    have := hA p (by omega) 0 (by omega)
    rw [show o + 3 + 1 * p + 0 = o + (p + 3) by omega] at this
    exact this
set_option maxRecDepth 100000 in
set_option maxHeartbeats 4000000 in
theorem M_Shop_init (d : Nat) {t : Nat × Nat} {f : Nat → RV} (ho : G o = some (false, 9, 0, f)) : Mt g (d + 1) m_Shop_init [.inr (0, o), .inr t] (G, o + 1) 36 514 (PI G o 37 (shopC o t)) := by
  refine Mt.of9 [some (.inr (0, o)), some (.inr t), none] (by decide +kernel) rfl rfl rfl rfl ?_
  refine ev_aload_n (k0 := 0) rfl d_Shop_init_0 ?_
  refine ev_objInit (Nat.le_of_ble_eq_true rfl) oj_Shop_3 oi_1 oi_2 d_Shop_init_1 ?_
  refine ev_aload_n (k0 := 0) rfl d_Shop_init_4 ?_
  refine cw_iconst 0 d_Shop_init_5 rfl ?_
  refine ev_putf (M := (G, 0)) fl_Shop_9_9 (ho) (show okv g .int _ from okv_int) d_Shop_init_6 ?_
  refine ev_aload_n (k0 := 0) rfl d_Shop_init_9 ?_
  refine cw_iconst 0 d_Shop_init_10 rfl ?_
  refine ev_putf (M := (G, 0)) fl_Shop_15_9 (wrG_S) (show okv g .int _ from okv_int) d_Shop_init_11 ?_
  refine ev_aload_n (k0 := 0) rfl d_Shop_init_14 ?_
  refine cw_bipush 8 d_Shop_init_15 rfl ?_
  refine Ev.room (mc := 35 + 1) (ms := 506 + 8) (ev_newa (M := (G, 0)) (ei := 0) (n := 8) (at0 := .int) (ty := .int) rfl rfl (by decide) ac_int (by decide) (by decide) (by decide) d_Shop_init_17 ?_) (by omega) (by omega)
  refine ev_putfF (M := (G, 0)) fl_Shop_18_9 rfl ((wrG_N (by omega)).trans (wrG_S)) (show okv g (.array .int) _ from okv_arr) d_Shop_init_19 ?_
  refine ev_aload_n (k0 := 0) rfl d_Shop_init_22 ?_
  refine cw_bipush 24 d_Shop_init_23 rfl ?_
  refine Ev.room (mc := 34 + 1) (ms := 482 + 24) (ev_newq (M := (G, 0)) (ei := 4) (n := 24) rfl cl_Shop_22 ao_Prophecy (by decide) (by decide) (by decide) d_Shop_init_25 ?_) (by omega) (by omega)
  refine ev_putfF (M := (G, 0)) fl_Shop_24_9 rfl ((wrG_N (by omega)).trans (wrG_S)) (show okv g (.array (.object "ProphecyShop$Prophecy")) _ from okv_arr) d_Shop_init_28 ?_
  refine ev_aload_n (k0 := 0) rfl d_Shop_init_31 ?_
  refine cw_iconst 0 d_Shop_init_32 rfl ?_
  refine ev_putf (M := (G, 0)) fl_Shop_28_9 (wrG_S) (show okv g .int _ from okv_int) d_Shop_init_33 ?_
  refine ev_aload_n (k0 := 0) rfl d_Shop_init_36 ?_
  refine cw_iconst 5 d_Shop_init_37 rfl ?_
  refine Ev.room (mc := 33 + 1) (ms := 477 + 5) (ev_newq (M := (G, 0)) (ei := 5) (n := 5) rfl cl_Shop_31 ao_Owl (by decide) (by decide) (by decide) d_Shop_init_38 ?_) (by omega) (by omega)
  refine ev_putfF (M := (G, 0)) fl_Shop_33_9 rfl ((wrG_N (by omega)).trans (wrG_S)) (show okv g (.array (.object "ProphecyShop$Owl")) _ from okv_arr) d_Shop_init_41 ?_
  refine ev_aload_n (k0 := 0) rfl d_Shop_init_44 ?_
  refine cw_bipush 24 d_Shop_init_45 rfl ?_
  refine Ev.room (mc := 32 + 1) (ms := 453 + 24) (ev_newa (M := (G, 0)) (ei := 0) (n := 24) (at0 := .int) (ty := .int) rfl rfl (by decide) ac_int (by decide) (by decide) (by decide) d_Shop_init_47 ?_) (by omega) (by omega)
  refine ev_putfF (M := (G, 0)) fl_Shop_37_9 rfl ((wrG_N (by omega)).trans (wrG_S)) (show okv g (.array .int) _ from okv_arr) d_Shop_init_49 ?_
  refine ev_aload_n (k0 := 0) rfl d_Shop_init_52 ?_
  refine cw_iconst 0 d_Shop_init_53 rfl ?_
  refine ev_putf (M := (G, 0)) fl_Shop_40_9 (wrG_S) (show okv g .int _ from okv_int) d_Shop_init_54 ?_
  refine ev_aload_n (k0 := 0) rfl d_Shop_init_57 ?_
  refine cw_bipush 60 d_Shop_init_58 rfl ?_
  refine Ev.room (mc := 31 + 1) (ms := 393 + 60) (ev_newa (M := (G, 0)) (ei := 0) (n := 60) (at0 := .int) (ty := .int) rfl rfl (by decide) ac_int (by decide) (by decide) (by decide) d_Shop_init_60 ?_) (by omega) (by omega)
  refine ev_putfF (M := (G, 0)) fl_Shop_43_9 rfl ((wrG_N (by omega)).trans (wrG_S)) (show okv g (.array .int) _ from okv_arr) d_Shop_init_62 ?_
  refine ev_aload_n (k0 := 0) rfl d_Shop_init_65 ?_
  refine cw_bipush 60 d_Shop_init_66 rfl ?_
  refine Ev.room (mc := 30 + 1) (ms := 333 + 60) (ev_newa (M := (G, 0)) (ei := 0) (n := 60) (at0 := .int) (ty := .int) rfl rfl (by decide) ac_int (by decide) (by decide) (by decide) d_Shop_init_68 ?_) (by omega) (by omega)
  refine ev_putfF (M := (G, 0)) fl_Shop_46_9 rfl ((wrG_N (by omega)).trans (wrG_S)) (show okv g (.array .int) _ from okv_arr) d_Shop_init_70 ?_
  refine ev_aload_n (k0 := 0) rfl d_Shop_init_73 ?_
  refine cw_bipush 60 d_Shop_init_74 rfl ?_
  refine Ev.room (mc := 29 + 1) (ms := 273 + 60) (ev_newa (M := (G, 0)) (ei := 0) (n := 60) (at0 := .int) (ty := .int) rfl rfl (by decide) ac_int (by decide) (by decide) (by decide) d_Shop_init_76 ?_) (by omega) (by omega)
  refine ev_putfF (M := (G, 0)) fl_Shop_49_9 rfl ((wrG_N (by omega)).trans (wrG_S)) (show okv g (.array .int) _ from okv_arr) d_Shop_init_78 ?_
  refine ev_aload_n (k0 := 0) rfl d_Shop_init_81 ?_
  refine cw_iconst 0 d_Shop_init_82 rfl ?_
  refine ev_putf (M := (G, 0)) fl_Shop_52_9 (wrG_S) (show okv g .int _ from okv_int) d_Shop_init_83 ?_
  refine ev_aload_n (k0 := 0) rfl d_Shop_init_86 ?_
  refine cw_iconst 0 d_Shop_init_87 rfl ?_
  refine ev_putf (M := (G, 0)) fl_Shop_55_9 (wrG_S) (show okv g .int _ from okv_int) d_Shop_init_88 ?_
  refine ev_aload_n (k0 := 0) rfl d_Shop_init_91 ?_
  refine cw_iconst 0 d_Shop_init_92 rfl ?_
  refine ev_putf (M := (G, 0)) fl_Shop_58_9 (wrG_S) (show okv g .int _ from okv_int) d_Shop_init_93 ?_
  refine ev_aload_n (k0 := 0) rfl d_Shop_init_96 ?_
  refine ev_aload_n (k0 := 1) rfl d_Shop_init_97 ?_
  refine ev_putf (M := (G, 0)) fl_Shop_61_9 (wrG_S) (show okv g (.object "ProphecyShop$Setup") _ from okv_obj) d_Shop_init_98 ?_
  refine cw_iconst 0 d_Shop_init_101 rfl ?_
  refine cw_istoreN_n 2 0 rfl [some (.inr (0, o)), some (.inr t), some (.inl (.int 0))] d_Shop_init_102 rfl rfl rfl ?_
  refine Ev.room (L_shopP d (t := t) (a := o + 2) (base := o + 8) (wrG_S) rfl (by omega) (by omega) (by omega) 24 0 _ (by omega) (FILL.zero ((wrG_N (by omega)).trans ((wrG_N (by omega)).trans ((wrG_N (by omega)).trans ((wrG_N (by omega)).trans ((wrG_N (by omega)).trans ((wrG_N (by omega)).trans ((wrG_N (by omega)).trans ((wrG_N (by omega)).trans ((wrG_N (by omega)).trans ((wrG_N (by omega)).trans ((wrG_N (by omega)).trans ((wrG_N (by omega)).trans ((wrG_N (by omega)).trans ((wrG_N (by omega)).trans ((wrG_N (by omega)).trans ((wrG_N (by omega)).trans ((wrG_N (by omega)).trans (wrG_S))))))))))))))))))) 5 25 _ (fun G3 hF3 => ?_)) (by omega) (by omega)
  obtain ⟨⟨h, h1, h2⟩, hA, hfr⟩ := hF3
  have ho3 := (hfr o (by omega) (by omega)).trans (wrG_S)
  have ha3 := (hfr (o + 3) (by omega) (by omega)).trans ((wrG_N (by omega)).trans ((wrG_N (by omega)).trans ((wrG_N (by omega)).trans ((wrG_N (by omega)).trans ((wrG_N (by omega)).trans ((wrG_N (by omega)).trans ((wrG_N (by omega)).trans ((wrG_N (by omega)).trans ((wrG_N (by omega)).trans ((wrG_N (by omega)).trans ((wrG_N (by omega)).trans ((wrG_N (by omega)).trans ((wrG_N (by omega)).trans ((wrG_N (by omega)).trans (wrG_S)))))))))))))))
  refine cw_iconst 0 d_Shop_init_128 rfl ?_
  refine Ev.sub (ls' := [some (.inr (0, o)), some (.inr t), none]) (LSb.s (LSb.s (LSb.n LSb.z))) ?_
  refine cw_istoreN_n 2 0 rfl [some (.inr (0, o)), some (.inr t), some (.inl (.int 0))] d_Shop_init_129 rfl rfl rfl ?_
  refine Ev.room (L_shopO d (t := t) (a := o + 3) (base := o + 32) ho3 rfl (by omega) (by omega) (by omega) 5 0 G3 (by omega) (FILL.zero ha3) 0 0 _ (fun G4 hF4 => ?_)) (by omega) (by omega)
  obtain ⟨⟨h', h1', h2'⟩, hA', hfr'⟩ := hF4
  refine ev_return (st := []) rfl d_Shop_init_154 ⟨rfl, rfl, fun i hi => ?_, fun q hq => (hfr' q (by omega) (by omega)).trans ((hfr q (by omega) (by omega)).trans ((wrG_N (by omega)).trans ((wrG_N (by omega)).trans ((wrG_N (by omega)).trans ((wrG_N (by omega)).trans ((wrG_N (by omega)).trans ((wrG_N (by omega)).trans ((wrG_N (by omega)).trans ((wrG_N (by omega)).trans ((wrG_N (by omega)).trans ((wrG_N (by omega)).trans ((wrG_N (by omega)).trans ((wrG_N (by omega)).trans ((wrG_N (by omega)).trans ((wrG_N (by omega)).trans ((wrG_N (by omega)).trans ((wrG_N (by omega)).trans ((wrG_N (by omega)).trans ((wrG_N (by omega)).trans ((wrG_N (by omega)).trans ((wrG_N (by omega)).trans ((wrG_N (by omega)).trans ((wrG_N (by omega)).trans (rfl))))))))))))))))))))))))⟩
  by_cases e : i < 8
  · rcases (show i = 0 ∨ i = 1 ∨ i = 2 ∨ i = 3 ∨ i = 4 ∨ i = 5 ∨ i = 6 ∨ i = 7 by omega) with rfl | rfl | rfl | rfl | rfl | rfl | rfl | rfl
    · exact ⟨_, (hfr' o (by omega) (by omega)).trans ho3, rfl, rfl, rfl, fun k hk => by
      replace hk : k < 15 := hk
      rcases (show k = 0 ∨ k = 1 ∨ k = 2 ∨ k = 3 ∨ k = 4 ∨ k = 5 ∨ k = 6 ∨ k = 7 ∨ k = 8 ∨ k = 9 ∨ k = 10 ∨ k = 11 ∨ k = 12 ∨ k = 13 ∨ k = 14 by omega) with rfl | rfl | rfl | rfl | rfl | rfl | rfl | rfl | rfl | rfl | rfl | rfl | rfl | rfl | rfl <;> rfl⟩
    · exact ⟨_, (hfr' (o + 1) (by omega) (by omega)).trans ((hfr (o + 1) (by omega) (by omega)).trans ((wrG_N (by omega)).trans ((wrG_N (by omega)).trans ((wrG_N (by omega)).trans ((wrG_N (by omega)).trans ((wrG_N (by omega)).trans ((wrG_N (by omega)).trans ((wrG_N (by omega)).trans ((wrG_N (by omega)).trans ((wrG_N (by omega)).trans ((wrG_N (by omega)).trans ((wrG_N (by omega)).trans ((wrG_N (by omega)).trans ((wrG_N (by omega)).trans ((wrG_N (by omega)).trans ((wrG_N (by omega)).trans ((wrG_N (by omega)).trans ((wrG_N (by omega)).trans ((wrG_N (by omega)).trans ((wrG_N (by omega)).trans (wrG_S))))))))))))))))))))), CE.rf⟩
    · exact ⟨_, (hfr' (o + 2) (by omega) (by omega)).trans h1, rfl, rfl, rfl, fun k hk => h2 k hk⟩
    · exact ⟨_, h1', rfl, rfl, rfl, fun k hk => h2' k hk⟩
    · exact ⟨_, (hfr' (o + 4) (by omega) (by omega)).trans ((hfr (o + 4) (by omega) (by omega)).trans ((wrG_N (by omega)).trans ((wrG_N (by omega)).trans ((wrG_N (by omega)).trans ((wrG_N (by omega)).trans ((wrG_N (by omega)).trans ((wrG_N (by omega)).trans ((wrG_N (by omega)).trans ((wrG_N (by omega)).trans ((wrG_N (by omega)).trans ((wrG_N (by omega)).trans ((wrG_N (by omega)).trans ((wrG_N (by omega)).trans (wrG_S)))))))))))))), CE.rf⟩
    · exact ⟨_, (hfr' (o + 5) (by omega) (by omega)).trans ((hfr (o + 5) (by omega) (by omega)).trans ((wrG_N (by omega)).trans ((wrG_N (by omega)).trans ((wrG_N (by omega)).trans ((wrG_N (by omega)).trans ((wrG_N (by omega)).trans ((wrG_N (by omega)).trans ((wrG_N (by omega)).trans ((wrG_N (by omega)).trans ((wrG_N (by omega)).trans (wrG_S))))))))))), CE.rf⟩
    · exact ⟨_, (hfr' (o + 6) (by omega) (by omega)).trans ((hfr (o + 6) (by omega) (by omega)).trans ((wrG_N (by omega)).trans ((wrG_N (by omega)).trans ((wrG_N (by omega)).trans ((wrG_N (by omega)).trans ((wrG_N (by omega)).trans ((wrG_N (by omega)).trans ((wrG_N (by omega)).trans (wrG_S))))))))), CE.rf⟩
    · exact ⟨_, (hfr' (o + 7) (by omega) (by omega)).trans ((hfr (o + 7) (by omega) (by omega)).trans ((wrG_N (by omega)).trans ((wrG_N (by omega)).trans ((wrG_N (by omega)).trans ((wrG_N (by omega)).trans ((wrG_N (by omega)).trans (wrG_S))))))), CE.rf⟩
  · by_cases e2 : i < 32
    · obtain ⟨p, rfl⟩ : ∃ p, i = p + 8 := ⟨i - 8, by omega⟩
      have := hA p (by omega) 0 (by omega)
      rw [show o + 8 + 1 * p + 0 = o + (p + 8) by omega] at this
      have e9 : shopC o t (p + 8) = prophC := if_pos e2
      rw [e9]
      exact this.fr (hfr' (o + (p + 8)) (by omega) (by omega))
    · obtain ⟨p, rfl⟩ : ∃ p, i = p + 8 := ⟨i - 8, by omega⟩
      have := hA' (p - 24) (by omega) 0 (by omega)
      rw [show o + 32 + 1 * (p - 24) + 0 = o + (p + 8) by omega] at this
      have e9 : shopC o t (p + 8) = owlC := if_neg e2
      rw [e9]
      exact this
end Big

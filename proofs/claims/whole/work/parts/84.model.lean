/-! The model's cells. -/
def rC (o q : Nat) : RC := if q = 0 then (false, 13, 0, fun k => if k = 0 then .inr (0, o + 1) else if k = 1 then .inr (0, o + 2) else if k = 2 then .inr (0, o + 3) else if k = 3 then .inr (0, o + 4) else if k = 4 then .inr (0, o + 5) else if k = 5 then .inr (0, o + 6) else if k = 8 then .inr (0, o + 7) else if k = 18 then .inr (0, o + 8) else if k = 19 then .inr (0, o + 9) else if k = 26 then .inr (0, o + 10) else if k = 27 then .inr (0, o + 11) else if k = 11 then .inl (.int (-1)) else .inl (.int 0)) else if q = 1 then zA 0 524 else if q = 2 then zA 0 524 else if q = 3 then zA 0 524 else if q = 4 then zA 0 4192 else if q = 5 then zA 0 1048 else if q = 6 then zA 1 2 else if q = 7 then zA 0 800 else if q = 8 then zA 0 30 else if q = 9 then zA 0 210 else if q = 10 then zA 0 200 else zA 0 8
section Model
variable {g : GL} {G : RG} {o : Nat}
set_option maxRecDepth 100000 in
set_option maxHeartbeats 8000000 in
theorem R_alloc (d mc ms : Nat) {Post : RO → RM → Prop} (ho : G o = some (false, 13, 0, dflt tyX12)) (k9 : ∀ G3, (∀ i, i < 12 → AT G3 (o + i) (rC o i)) → (∀ q, q < o → G3 q = G q) → Ev g (d + 1) m_R_init 104 [some (.inr (0, o))] [] (G3, o + 12) mc ms Post) : Ev g (d + 1) m_R_init 0 [some (.inr (0, o))] [] (G, o + 1) (mc + 11) (ms + 8062) Post := by
  refine ev_aload_n (k0 := 0) rfl d_R_init_0 ?_
  refine ev_objInit (Nat.le_of_ble_eq_true rfl) oj_ProphecyShopModel_1 oi_1 oi_2 d_R_init_1 ?_
  refine ev_aload_n (k0 := 0) rfl d_R_init_4 ?_
  refine cw_sipush 524 d_R_init_5 rfl ?_
  refine Ev.room (mc := (10 + mc) + 1) (ms := (7538 + ms) + 524) (ev_newa (M := (G, 0)) (ei := 0) (n := 524) (at0 := .int) (ty := .int) rfl rfl (by decide) ac_int (by decide) (by decide) (by decide) d_R_init_8 ?_) (by omega) (by omega)
  refine ev_putfF (M := (G, 0)) fl_ProphecyShopModel_7_13 rfl ((wrG_N (by omega)).trans (ho)) (show okv g (.array .int) _ from okv_arr) d_R_init_10 ?_
  refine ev_aload_n (k0 := 0) rfl d_R_init_13 ?_
  refine cw_sipush 524 d_R_init_14 rfl ?_
  refine Ev.room (mc := (9 + mc) + 1) (ms := (7014 + ms) + 524) (ev_newa (M := (G, 0)) (ei := 0) (n := 524) (at0 := .int) (ty := .int) rfl rfl (by decide) ac_int (by decide) (by decide) (by decide) d_R_init_17 ?_) (by omega) (by omega)
  refine ev_putfF (M := (G, 0)) fl_ProphecyShopModel_13_13 rfl ((wrG_N (by omega)).trans (wrG_S)) (show okv g (.array .int) _ from okv_arr) d_R_init_19 ?_
  refine ev_aload_n (k0 := 0) rfl d_R_init_22 ?_
  refine cw_sipush 524 d_R_init_23 rfl ?_
  refine Ev.room (mc := (8 + mc) + 1) (ms := (6490 + ms) + 524) (ev_newa (M := (G, 0)) (ei := 0) (n := 524) (at0 := .int) (ty := .int) rfl rfl (by decide) ac_int (by decide) (by decide) (by decide) d_R_init_26 ?_) (by omega) (by omega)
  refine ev_putfF (M := (G, 0)) fl_ProphecyShopModel_16_13 rfl ((wrG_N (by omega)).trans (wrG_S)) (show okv g (.array .int) _ from okv_arr) d_R_init_28 ?_
  refine ev_aload_n (k0 := 0) rfl d_R_init_31 ?_
  refine cw_sipush 4192 d_R_init_32 rfl ?_
  refine Ev.room (mc := (7 + mc) + 1) (ms := (2298 + ms) + 4192) (ev_newa (M := (G, 0)) (ei := 0) (n := 4192) (at0 := .int) (ty := .int) rfl rfl (by decide) ac_int (by decide) (by decide) (by decide) d_R_init_35 ?_) (by omega) (by omega)
  refine ev_putfF (M := (G, 0)) fl_ProphecyShopModel_19_13 rfl ((wrG_N (by omega)).trans (wrG_S)) (show okv g (.array .int) _ from okv_arr) d_R_init_37 ?_
  refine ev_aload_n (k0 := 0) rfl d_R_init_40 ?_
  refine cw_sipush 1048 d_R_init_41 rfl ?_
  refine Ev.room (mc := (6 + mc) + 1) (ms := (1250 + ms) + 1048) (ev_newa (M := (G, 0)) (ei := 0) (n := 1048) (at0 := .int) (ty := .int) rfl rfl (by decide) ac_int (by decide) (by decide) (by decide) d_R_init_44 ?_) (by omega) (by omega)
  refine ev_putfF (M := (G, 0)) fl_ProphecyShopModel_22_13 rfl ((wrG_N (by omega)).trans (wrG_S)) (show okv g (.array .int) _ from okv_arr) d_R_init_46 ?_
  refine ev_aload_n (k0 := 0) rfl d_R_init_49 ?_
  refine cw_iconst 2 d_R_init_50 rfl ?_
  refine Ev.room (mc := (5 + mc) + 1) (ms := (1248 + ms) + 2) (ev_newa (M := (G, 0)) (ei := 1) (n := 2) (at0 := .boolean) (ty := .boolean) rfl rfl (by decide) ac_boolean (by decide) (by decide) (by decide) d_R_init_51 ?_) (by omega) (by omega)
  refine ev_putfF (M := (G, 0)) fl_ProphecyShopModel_25_13 rfl ((wrG_N (by omega)).trans (wrG_S)) (show okv g (.array .boolean) _ from okv_arr) d_R_init_53 ?_
  refine ev_aload_n (k0 := 0) rfl d_R_init_56 ?_
  refine cw_sipush 800 d_R_init_57 rfl ?_
  refine Ev.room (mc := (4 + mc) + 1) (ms := (448 + ms) + 800) (ev_newa (M := (G, 0)) (ei := 0) (n := 800) (at0 := .int) (ty := .int) rfl rfl (by decide) ac_int (by decide) (by decide) (by decide) d_R_init_60 ?_) (by omega) (by omega)
  refine ev_putfF (M := (G, 0)) fl_ProphecyShopModel_29_13 rfl ((wrG_N (by omega)).trans (wrG_S)) (show okv g (.array .int) _ from okv_arr) d_R_init_62 ?_
  refine ev_aload_n (k0 := 0) rfl d_R_init_65 ?_
  refine cw_iconst (-1) d_R_init_66 rfl ?_
  refine ev_putf (M := (G, 0)) fl_ProphecyShopModel_32_13 (wrG_S) (show okv g .int _ from okv_int) d_R_init_67 ?_
  refine ev_aload_n (k0 := 0) rfl d_R_init_70 ?_
  refine cw_bipush 30 d_R_init_71 rfl ?_
  refine Ev.room (mc := (3 + mc) + 1) (ms := (418 + ms) + 30) (ev_newa (M := (G, 0)) (ei := 0) (n := 30) (at0 := .int) (ty := .int) rfl rfl (by decide) ac_int (by decide) (by decide) (by decide) d_R_init_73 ?_) (by omega) (by omega)
  refine ev_putfF (M := (G, 0)) fl_ProphecyShopModel_36_13 rfl ((wrG_N (by omega)).trans (wrG_S)) (show okv g (.array .int) _ from okv_arr) d_R_init_75 ?_
  refine ev_aload_n (k0 := 0) rfl d_R_init_78 ?_
  refine cw_sipush 210 d_R_init_79 rfl ?_
  refine Ev.room (mc := (2 + mc) + 1) (ms := (208 + ms) + 210) (ev_newa (M := (G, 0)) (ei := 0) (n := 210) (at0 := .int) (ty := .int) rfl rfl (by decide) ac_int (by decide) (by decide) (by decide) d_R_init_82 ?_) (by omega) (by omega)
  refine ev_putfF (M := (G, 0)) fl_ProphecyShopModel_39_13 rfl ((wrG_N (by omega)).trans (wrG_S)) (show okv g (.array .int) _ from okv_arr) d_R_init_84 ?_
  refine ev_aload_n (k0 := 0) rfl d_R_init_87 ?_
  refine cw_sipush 200 d_R_init_88 rfl ?_
  refine Ev.room (mc := (1 + mc) + 1) (ms := (8 + ms) + 200) (ev_newa (M := (G, 0)) (ei := 0) (n := 200) (at0 := .int) (ty := .int) rfl rfl (by decide) ac_int (by decide) (by decide) (by decide) d_R_init_91 ?_) (by omega) (by omega)
  refine ev_putfF (M := (G, 0)) fl_ProphecyShopModel_42_13 rfl ((wrG_N (by omega)).trans (wrG_S)) (show okv g (.array .int) _ from okv_arr) d_R_init_93 ?_
  refine ev_aload_n (k0 := 0) rfl d_R_init_96 ?_
  refine cw_bipush 8 d_R_init_97 rfl ?_
  refine Ev.room (mc := (0 + mc) + 1) (ms := (0 + ms) + 8) (ev_newa (M := (G, 0)) (ei := 0) (n := 8) (at0 := .int) (ty := .int) rfl rfl (by decide) ac_int (by decide) (by decide) (by decide) d_R_init_99 ?_) (by omega) (by omega)
  refine ev_putfF (M := (G, 0)) fl_ProphecyShopModel_45_13 rfl ((wrG_N (by omega)).trans (wrG_S)) (show okv g (.array .int) _ from okv_arr) d_R_init_101 ?_
  refine Ev.room (k9 _ (fun i hi => ?_) (fun q hq => ?_)) (by omega) (by omega)
  · rcases (show i = 0 ∨ i = 1 ∨ i = 2 ∨ i = 3 ∨ i = 4 ∨ i = 5 ∨ i = 6 ∨ i = 7 ∨ i = 8 ∨ i = 9 ∨ i = 10 ∨ i = 11 by omega) with rfl | rfl | rfl | rfl | rfl | rfl | rfl | rfl | rfl | rfl | rfl | rfl
    · exact ⟨_, wrG_S, rfl, rfl, rfl, fun k hk => by
      replace hk : k < 29 := hk
      rcases (show k = 0 ∨ k = 1 ∨ k = 2 ∨ k = 3 ∨ k = 4 ∨ k = 5 ∨ k = 6 ∨ k = 7 ∨ k = 8 ∨ k = 9 ∨ k = 10 ∨ k = 11 ∨ k = 12 ∨ k = 13 ∨ k = 14 ∨ k = 15 ∨ k = 16 ∨ k = 17 ∨ k = 18 ∨ k = 19 ∨ k = 20 ∨ k = 21 ∨ k = 22 ∨ k = 23 ∨ k = 24 ∨ k = 25 ∨ k = 26 ∨ k = 27 ∨ k = 28 by omega) with rfl | rfl | rfl | rfl | rfl | rfl | rfl | rfl | rfl | rfl | rfl | rfl | rfl | rfl | rfl | rfl | rfl | rfl | rfl | rfl | rfl | rfl | rfl | rfl | rfl | rfl | rfl | rfl | rfl <;> rfl⟩
    · exact ⟨_, (wrG_N (by omega)).trans ((wrG_N (by omega)).trans ((wrG_N (by omega)).trans ((wrG_N (by omega)).trans ((wrG_N (by omega)).trans ((wrG_N (by omega)).trans ((wrG_N (by omega)).trans ((wrG_N (by omega)).trans ((wrG_N (by omega)).trans ((wrG_N (by omega)).trans ((wrG_N (by omega)).trans ((wrG_N (by omega)).trans ((wrG_N (by omega)).trans ((wrG_N (by omega)).trans ((wrG_N (by omega)).trans ((wrG_N (by omega)).trans ((wrG_N (by omega)).trans ((wrG_N (by omega)).trans ((wrG_N (by omega)).trans ((wrG_N (by omega)).trans ((wrG_N (by omega)).trans ((wrG_N (by omega)).trans (wrG_S)))))))))))))))))))))), CE.rf⟩
    · exact ⟨_, (wrG_N (by omega)).trans ((wrG_N (by omega)).trans ((wrG_N (by omega)).trans ((wrG_N (by omega)).trans ((wrG_N (by omega)).trans ((wrG_N (by omega)).trans ((wrG_N (by omega)).trans ((wrG_N (by omega)).trans ((wrG_N (by omega)).trans ((wrG_N (by omega)).trans ((wrG_N (by omega)).trans ((wrG_N (by omega)).trans ((wrG_N (by omega)).trans ((wrG_N (by omega)).trans ((wrG_N (by omega)).trans ((wrG_N (by omega)).trans ((wrG_N (by omega)).trans ((wrG_N (by omega)).trans ((wrG_N (by omega)).trans ((wrG_N (by omega)).trans (wrG_S)))))))))))))))))))), CE.rf⟩
    · exact ⟨_, (wrG_N (by omega)).trans ((wrG_N (by omega)).trans ((wrG_N (by omega)).trans ((wrG_N (by omega)).trans ((wrG_N (by omega)).trans ((wrG_N (by omega)).trans ((wrG_N (by omega)).trans ((wrG_N (by omega)).trans ((wrG_N (by omega)).trans ((wrG_N (by omega)).trans ((wrG_N (by omega)).trans ((wrG_N (by omega)).trans ((wrG_N (by omega)).trans ((wrG_N (by omega)).trans ((wrG_N (by omega)).trans ((wrG_N (by omega)).trans ((wrG_N (by omega)).trans ((wrG_N (by omega)).trans (wrG_S)))))))))))))))))), CE.rf⟩
    · exact ⟨_, (wrG_N (by omega)).trans ((wrG_N (by omega)).trans ((wrG_N (by omega)).trans ((wrG_N (by omega)).trans ((wrG_N (by omega)).trans ((wrG_N (by omega)).trans ((wrG_N (by omega)).trans ((wrG_N (by omega)).trans ((wrG_N (by omega)).trans ((wrG_N (by omega)).trans ((wrG_N (by omega)).trans ((wrG_N (by omega)).trans ((wrG_N (by omega)).trans ((wrG_N (by omega)).trans ((wrG_N (by omega)).trans ((wrG_N (by omega)).trans (wrG_S)))))))))))))))), CE.rf⟩
    · exact ⟨_, (wrG_N (by omega)).trans ((wrG_N (by omega)).trans ((wrG_N (by omega)).trans ((wrG_N (by omega)).trans ((wrG_N (by omega)).trans ((wrG_N (by omega)).trans ((wrG_N (by omega)).trans ((wrG_N (by omega)).trans ((wrG_N (by omega)).trans ((wrG_N (by omega)).trans ((wrG_N (by omega)).trans ((wrG_N (by omega)).trans ((wrG_N (by omega)).trans ((wrG_N (by omega)).trans (wrG_S)))))))))))))), CE.rf⟩
    · exact ⟨_, (wrG_N (by omega)).trans ((wrG_N (by omega)).trans ((wrG_N (by omega)).trans ((wrG_N (by omega)).trans ((wrG_N (by omega)).trans ((wrG_N (by omega)).trans ((wrG_N (by omega)).trans ((wrG_N (by omega)).trans ((wrG_N (by omega)).trans ((wrG_N (by omega)).trans ((wrG_N (by omega)).trans ((wrG_N (by omega)).trans (wrG_S)))))))))))), CE.rf⟩
    · exact ⟨_, (wrG_N (by omega)).trans ((wrG_N (by omega)).trans ((wrG_N (by omega)).trans ((wrG_N (by omega)).trans ((wrG_N (by omega)).trans ((wrG_N (by omega)).trans ((wrG_N (by omega)).trans ((wrG_N (by omega)).trans ((wrG_N (by omega)).trans ((wrG_N (by omega)).trans (wrG_S)))))))))), CE.rf⟩
    · exact ⟨_, (wrG_N (by omega)).trans ((wrG_N (by omega)).trans ((wrG_N (by omega)).trans ((wrG_N (by omega)).trans ((wrG_N (by omega)).trans ((wrG_N (by omega)).trans ((wrG_N (by omega)).trans (wrG_S))))))), CE.rf⟩
    · exact ⟨_, (wrG_N (by omega)).trans ((wrG_N (by omega)).trans ((wrG_N (by omega)).trans ((wrG_N (by omega)).trans ((wrG_N (by omega)).trans (wrG_S))))), CE.rf⟩
    · exact ⟨_, (wrG_N (by omega)).trans ((wrG_N (by omega)).trans ((wrG_N (by omega)).trans (wrG_S))), CE.rf⟩
    · exact ⟨_, (wrG_N (by omega)).trans (wrG_S), CE.rf⟩
  · exact (wrG_N (by omega)).trans ((wrG_N (by omega)).trans ((wrG_N (by omega)).trans ((wrG_N (by omega)).trans ((wrG_N (by omega)).trans ((wrG_N (by omega)).trans ((wrG_N (by omega)).trans ((wrG_N (by omega)).trans ((wrG_N (by omega)).trans ((wrG_N (by omega)).trans ((wrG_N (by omega)).trans ((wrG_N (by omega)).trans ((wrG_N (by omega)).trans ((wrG_N (by omega)).trans ((wrG_N (by omega)).trans ((wrG_N (by omega)).trans ((wrG_N (by omega)).trans ((wrG_N (by omega)).trans ((wrG_N (by omega)).trans ((wrG_N (by omega)).trans ((wrG_N (by omega)).trans ((wrG_N (by omega)).trans ((wrG_N (by omega)).trans (rfl)))))))))))))))))))))))
end Model
def nu0 : Mem := fun K _ f => if K = 13 then (if f = 11 then -1 else 0) else 0
set_option maxRecDepth 100000 in
theorem rC_cel : (List.range 12).all (fun q => ceB (rC 535 q) (celD nu0 (535 + q))) = true := by decide +kernel
theorem alloc_normR {G : RG} (h : ∀ i, i < 12 → AT G (535 + i) (rC 535 i)) : ∀ o c', MG nu0 535 547 G o = some c' → ∃ c, G o = some c ∧ CE c c' := by
  intro o c' hc
  unfold MG at hc
  by_cases e : 535 ≤ o ∧ o < 547
  · rw [if_pos e] at hc
    obtain rfl := Option.some.inj hc
    obtain ⟨p, rfl⟩ : ∃ p, o = 535 + p := ⟨o - 535, by omega⟩
    obtain ⟨c, h1, h2⟩ := h p (by omega)
    have h3 := ceB_ok (List.all_eq_true.mp rC_cel p (List.mem_range.mpr (by omega)))
    refine ⟨c, h1, h2.1.trans h3.1, h2.2.1.trans h3.2.1, h2.2.2.1.trans h3.2.2.1, fun k hk => (h2.2.2.2 k hk).trans (h3.2.2.2 k ?_)⟩
    have a1 := h2.1
    have a2 := h2.2.1
    have a3 := h2.2.2.1
    rw [← a1, ← a2, ← a3]
    exact hk
  · rw [if_neg e] at hc
    exact ⟨c', hc, CE.rf⟩

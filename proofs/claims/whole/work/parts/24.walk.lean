/-- ProphecyShopModel.does -/
def f_R_does (x1 : Int32) (μ : Mem) : Option (Int32 × Mem) :=
  nm (st3 μ 13 0 7 0) (fun μ1 => chk (inb x1 30) (if (μ1 47 0 x1.toNatClampNeg) = 0 then (((f_R_laid x1 4 μ1)).bind (fun r3 => ((f_R_laid x1 5 μ1)).bind (fun r4 => ((f_R_laid x1 6 μ1)).bind (fun r5 => ((f_R_lengths r3 r4 r5 μ1)).bind (fun r6 => ((f_R_laid x1 0 r6)).bind (fun r7 => ((f_R_laid x1 1 r6)).bind (fun r8 => ((f_R_laid x1 2 r6)).bind (fun r9 => ((f_R_laid x1 3 r6)).bind (fun r10 => ((f_R_selling r7 r8 r9 r10 r6)).bind (fun r11 => some ((r11.1, r11.2)))))))))))) else (if (μ1 47 0 x1.toNatClampNeg) = 1 then (((f_R_laid x1 1 μ1)).bind (fun r12 => ((f_R_laid x1 2 μ1)).bind (fun r13 => ((f_R_happening r12 r13 μ1)).bind (fun r14 => some ((r14.1, r14.2)))))) else (if (μ1 47 0 x1.toNatClampNeg) = 2 then (((f_R_laid x1 0 μ1)).bind (fun r15 => ((f_R_asking r15 μ1)).bind (fun r16 => some ((r16.1, r16.2))))) else (((f_R_laid x1 0 μ1)).bind (fun r17 => ((f_R_advancing r17 μ1)).bind (fun r18 => some ((r18.1, r18.2)))))))))
set_option maxRecDepth 100000 in
set_option maxHeartbeats 4000000 in
theorem w_R_does {g : GL} {F G : RG} {nx : Nat} (d : Nat) {x1 : Int32} {μ : Mem}   {o : Int32 × Mem} (hG : LM vr 535 547 μ F G) (h : f_R_does x1 μ = some o) : Mt g (d + 6) m_R_does [.inr (0, off 13 0), .inl (.int x1)] (G, nx) 0 0 (pRW vr 535 547 (rI o.1) o.2 F nx) := by
  unfold f_R_does at h
  have kE : ∀ v, o = v → pRW vr 535 547 (rI o.1) o.2 F nx = pRW vr 535 547 (rI v.1) v.2 F nx := fun v e => by rw [e]
  refine Mt.of9 [some (.inr (0, off 13 0)), some (.inl (.int x1))] (by decide +kernel) rfl rfl rfl rfl ?_
  refine ev_aload_n (k0 := 0) rfl d_R_does_0 ?_
  refine cw_iconst 0 d_R_does_1 rfl ?_
  obtain ⟨μ1, e_μ1, h⟩ := nm_some h
  refine cv_put (.inl (.int 0)) 0 hG okR v_13 fl_ProphecyShopModel_73_13 rfl rfl okv_int d_R_does_2 ?_
  intro G hG; rw [← e_μ1] at hG
  refine ev_aload_n (k0 := 0) rfl d_R_does_5 ?_
  refine cv_get9 (.inr (0, off 47 0)) hG v_13 fg_ProphecyShopModel_36_13 rfl rfl d_R_does_6 ?_
  refine ev_iload_n (k0 := 1) rfl d_R_does_9 ?_
  obtain ⟨b2, h⟩ := chk_some h
  refine cv_iald hG v_47 rfl rfl b2 rfl d_R_does_10 ?_
  by_cases c0 : (μ1 47 0 x1.toNatClampNeg) = 0
  · rw [if_pos c0] at h
    refine ev_tabIn (tgt := 36) (off := 25) (by rw [c0]; decide) (by rw [c0]; decide) (by rw [c0]; rfl) (by decide) d_R_does_11 ?_
    refine ev_aload_n (k0 := 0) rfl d_R_does_36 ?_
    refine ev_aload_n (k0 := 0) rfl d_R_does_37 ?_
    refine ev_iload_n (k0 := 1) rfl d_R_does_38 ?_
    refine cw_iconst 4 d_R_does_39 rfl ?_
    obtain ⟨r3, hr3, h⟩ := bind_some9 h
    refine cv_V (d := d + 5) (mc1 := 0) (ms1 := 0) (mc := 0) (ms := 0) [.inl (.int x1), .inl (.int 4)] hG v_13 rfl lk_ProphecyShopModel_289 (w_R_laid (d + 5) hG hr3) rfl rfl d_R_does_40 (aft_ro ?_)
    refine Ev.at (pc' := 43) rfl (Ev.cong (st' := [.inl (.int r3), .inr (0, off 13 0)]) ?_ rfl rfl)
    refine ev_aload_n (k0 := 0) rfl d_R_does_43 ?_
    refine ev_iload_n (k0 := 1) rfl d_R_does_44 ?_
    refine cw_iconst 5 d_R_does_45 rfl ?_
    obtain ⟨r4, hr4, h⟩ := bind_some9 h
    refine cv_V (d := d + 5) (mc1 := 0) (ms1 := 0) (mc := 0) (ms := 0) [.inl (.int x1), .inl (.int 5)] hG v_13 rfl lk_ProphecyShopModel_289 (w_R_laid (d + 5) hG hr4) rfl rfl d_R_does_46 (aft_ro ?_)
    refine Ev.at (pc' := 49) rfl (Ev.cong (st' := [.inl (.int r4), .inl (.int r3), .inr (0, off 13 0)]) ?_ rfl rfl)
    refine ev_aload_n (k0 := 0) rfl d_R_does_49 ?_
    refine ev_iload_n (k0 := 1) rfl d_R_does_50 ?_
    refine cw_bipush 6 d_R_does_51 rfl ?_
    obtain ⟨r5, hr5, h⟩ := bind_some9 h
    refine cv_V (d := d + 5) (mc1 := 0) (ms1 := 0) (mc := 0) (ms := 0) [.inl (.int x1), .inl (.int 6)] hG v_13 rfl lk_ProphecyShopModel_289 (w_R_laid (d + 5) hG hr5) rfl rfl d_R_does_53 (aft_ro ?_)
    refine Ev.at (pc' := 56) rfl (Ev.cong (st' := [.inl (.int r5), .inl (.int r4), .inl (.int r3), .inr (0, off 13 0)]) ?_ rfl rfl)
    obtain ⟨r6, hr6, h⟩ := bind_some9 h
    refine cv_V (d := d + 5) (mc1 := 0) (ms1 := 0) (mc := 0) (ms := 0) [.inl (.int r3), .inl (.int r4), .inl (.int r5)] hG v_13 rfl lk_ProphecyShopModel_292 (w_R_lengths (d + 5) hG hr6) rfl rfl d_R_does_56 (aft_rw (fun G hG => ?_))
    refine Ev.at (pc' := 59) rfl (Ev.cong (st' := []) ?_ rfl rfl)
    refine ev_aload_n (k0 := 0) rfl d_R_does_59 ?_
    refine ev_aload_n (k0 := 0) rfl d_R_does_60 ?_
    refine ev_iload_n (k0 := 1) rfl d_R_does_61 ?_
    refine cw_iconst 0 d_R_does_62 rfl ?_
    obtain ⟨r7, hr7, h⟩ := bind_some9 h
    refine cv_V (d := d + 5) (mc1 := 0) (ms1 := 0) (mc := 0) (ms := 0) [.inl (.int x1), .inl (.int 0)] hG v_13 rfl lk_ProphecyShopModel_289 (w_R_laid (d + 5) hG hr7) rfl rfl d_R_does_63 (aft_ro ?_)
    refine Ev.at (pc' := 66) rfl (Ev.cong (st' := [.inl (.int r7), .inr (0, off 13 0)]) ?_ rfl rfl)
    refine ev_aload_n (k0 := 0) rfl d_R_does_66 ?_
    refine ev_iload_n (k0 := 1) rfl d_R_does_67 ?_
    refine cw_iconst 1 d_R_does_68 rfl ?_
    obtain ⟨r8, hr8, h⟩ := bind_some9 h
    refine cv_V (d := d + 5) (mc1 := 0) (ms1 := 0) (mc := 0) (ms := 0) [.inl (.int x1), .inl (.int 1)] hG v_13 rfl lk_ProphecyShopModel_289 (w_R_laid (d + 5) hG hr8) rfl rfl d_R_does_69 (aft_ro ?_)
    refine Ev.at (pc' := 72) rfl (Ev.cong (st' := [.inl (.int r8), .inl (.int r7), .inr (0, off 13 0)]) ?_ rfl rfl)
    refine ev_aload_n (k0 := 0) rfl d_R_does_72 ?_
    refine ev_iload_n (k0 := 1) rfl d_R_does_73 ?_
    refine cw_iconst 2 d_R_does_74 rfl ?_
    obtain ⟨r9, hr9, h⟩ := bind_some9 h
    refine cv_V (d := d + 5) (mc1 := 0) (ms1 := 0) (mc := 0) (ms := 0) [.inl (.int x1), .inl (.int 2)] hG v_13 rfl lk_ProphecyShopModel_289 (w_R_laid (d + 5) hG hr9) rfl rfl d_R_does_75 (aft_ro ?_)
    refine Ev.at (pc' := 78) rfl (Ev.cong (st' := [.inl (.int r9), .inl (.int r8), .inl (.int r7), .inr (0, off 13 0)]) ?_ rfl rfl)
    refine ev_aload_n (k0 := 0) rfl d_R_does_78 ?_
    refine ev_iload_n (k0 := 1) rfl d_R_does_79 ?_
    refine cw_iconst 3 d_R_does_80 rfl ?_
    obtain ⟨r10, hr10, h⟩ := bind_some9 h
    refine cv_V (d := d + 5) (mc1 := 0) (ms1 := 0) (mc := 0) (ms := 0) [.inl (.int x1), .inl (.int 3)] hG v_13 rfl lk_ProphecyShopModel_289 (w_R_laid (d + 5) hG hr10) rfl rfl d_R_does_81 (aft_ro ?_)
    refine Ev.at (pc' := 84) rfl (Ev.cong (st' := [.inl (.int r10), .inl (.int r9), .inl (.int r8), .inl (.int r7), .inr (0, off 13 0)]) ?_ rfl rfl)
    obtain ⟨r11, hr11, h⟩ := bind_some9 h
    refine cv_V (d := d + 5) (mc1 := 0) (ms1 := 0) (mc := 0) (ms := 0) [.inl (.int r7), .inl (.int r8), .inl (.int r9), .inl (.int r10)] hG v_13 rfl lk_ProphecyShopModel_295 (w_R_selling (d + 3) hG hr11) rfl rfl d_R_does_84 (aft_rw (fun G hG => ?_))
    refine Ev.at (pc' := 87) rfl (Ev.cong (st' := [.inl (.int r11.1)]) ?_ rfl rfl)
    have hP := kE _ (Option.some.inj h).symm
    exact ev_ireturn (st := []) rfl rfl d_R_does_87 (by rw [hP]; exact ⟨rfl, hG, rfl⟩)
  rw [if_neg c0] at h
  by_cases c1 : (μ1 47 0 x1.toNatClampNeg) = 1
  · rw [if_pos c1] at h
    refine ev_tabIn (tgt := 88) (off := 77) (by rw [c1]; decide) (by rw [c1]; decide) (by rw [c1]; rfl) (by decide) d_R_does_11 ?_
    refine ev_aload_n (k0 := 0) rfl d_R_does_88 ?_
    refine ev_aload_n (k0 := 0) rfl d_R_does_89 ?_
    refine ev_iload_n (k0 := 1) rfl d_R_does_90 ?_
    refine cw_iconst 1 d_R_does_91 rfl ?_
    obtain ⟨r12, hr12, h⟩ := bind_some9 h
    refine cv_V (d := d + 5) (mc1 := 0) (ms1 := 0) (mc := 0) (ms := 0) [.inl (.int x1), .inl (.int 1)] hG v_13 rfl lk_ProphecyShopModel_289 (w_R_laid (d + 5) hG hr12) rfl rfl d_R_does_92 (aft_ro ?_)
    refine Ev.at (pc' := 95) rfl (Ev.cong (st' := [.inl (.int r12), .inr (0, off 13 0)]) ?_ rfl rfl)
    refine ev_aload_n (k0 := 0) rfl d_R_does_95 ?_
    refine ev_iload_n (k0 := 1) rfl d_R_does_96 ?_
    refine cw_iconst 2 d_R_does_97 rfl ?_
    obtain ⟨r13, hr13, h⟩ := bind_some9 h
    refine cv_V (d := d + 5) (mc1 := 0) (ms1 := 0) (mc := 0) (ms := 0) [.inl (.int x1), .inl (.int 2)] hG v_13 rfl lk_ProphecyShopModel_289 (w_R_laid (d + 5) hG hr13) rfl rfl d_R_does_98 (aft_ro ?_)
    refine Ev.at (pc' := 101) rfl (Ev.cong (st' := [.inl (.int r13), .inl (.int r12), .inr (0, off 13 0)]) ?_ rfl rfl)
    obtain ⟨r14, hr14, h⟩ := bind_some9 h
    refine cv_V (d := d + 5) (mc1 := 0) (ms1 := 0) (mc := 0) (ms := 0) [.inl (.int r12), .inl (.int r13)] hG v_13 rfl lk_ProphecyShopModel_298 (w_R_happening (d + 3) hG hr14) rfl rfl d_R_does_101 (aft_rw (fun G hG => ?_))
    refine Ev.at (pc' := 104) rfl (Ev.cong (st' := [.inl (.int r14.1)]) ?_ rfl rfl)
    have hP := kE _ (Option.some.inj h).symm
    exact ev_ireturn (st := []) rfl rfl d_R_does_104 (by rw [hP]; exact ⟨rfl, hG, rfl⟩)
  rw [if_neg c1] at h
  by_cases c2 : (μ1 47 0 x1.toNatClampNeg) = 2
  · rw [if_pos c2] at h
    refine ev_tabIn (tgt := 105) (off := 94) (by rw [c2]; decide) (by rw [c2]; decide) (by rw [c2]; rfl) (by decide) d_R_does_11 ?_
    refine ev_aload_n (k0 := 0) rfl d_R_does_105 ?_
    refine ev_aload_n (k0 := 0) rfl d_R_does_106 ?_
    refine ev_iload_n (k0 := 1) rfl d_R_does_107 ?_
    refine cw_iconst 0 d_R_does_108 rfl ?_
    obtain ⟨r15, hr15, h⟩ := bind_some9 h
    refine cv_V (d := d + 5) (mc1 := 0) (ms1 := 0) (mc := 0) (ms := 0) [.inl (.int x1), .inl (.int 0)] hG v_13 rfl lk_ProphecyShopModel_289 (w_R_laid (d + 5) hG hr15) rfl rfl d_R_does_109 (aft_ro ?_)
    refine Ev.at (pc' := 112) rfl (Ev.cong (st' := [.inl (.int r15), .inr (0, off 13 0)]) ?_ rfl rfl)
    obtain ⟨r16, hr16, h⟩ := bind_some9 h
    refine cv_V (d := d + 5) (mc1 := 0) (ms1 := 0) (mc := 0) (ms := 0) [.inl (.int r15)] hG v_13 rfl lk_ProphecyShopModel_301 (w_R_asking (d + 3) hG hr16) rfl rfl d_R_does_112 (aft_rw (fun G hG => ?_))
    refine Ev.at (pc' := 115) rfl (Ev.cong (st' := [.inl (.int r16.1)]) ?_ rfl rfl)
    have hP := kE _ (Option.some.inj h).symm
    exact ev_ireturn (st := []) rfl rfl d_R_does_115 (by rw [hP]; exact ⟨rfl, hG, rfl⟩)
  rw [if_neg c2] at h
  refine ev_tabOut (tgt := 116) (tab_out (n := 2) (by decide) (fun k hk e => by rcases (show k = 0 ∨ k = 1 ∨ k = 2 by omega) with rfl | rfl | rfl <;> first | exact c0 e | exact c1 e | exact c2 e)) (by decide) d_R_does_11 ?_
  refine ev_aload_n (k0 := 0) rfl d_R_does_116 ?_
  refine ev_aload_n (k0 := 0) rfl d_R_does_117 ?_
  refine ev_iload_n (k0 := 1) rfl d_R_does_118 ?_
  refine cw_iconst 0 d_R_does_119 rfl ?_
  obtain ⟨r17, hr17, h⟩ := bind_some9 h
  refine cv_V (d := d + 5) (mc1 := 0) (ms1 := 0) (mc := 0) (ms := 0) [.inl (.int x1), .inl (.int 0)] hG v_13 rfl lk_ProphecyShopModel_289 (w_R_laid (d + 5) hG hr17) rfl rfl d_R_does_120 (aft_ro ?_)
  refine Ev.at (pc' := 123) rfl (Ev.cong (st' := [.inl (.int r17), .inr (0, off 13 0)]) ?_ rfl rfl)
  obtain ⟨r18, hr18, h⟩ := bind_some9 h
  refine cv_V (d := d + 5) (mc1 := 0) (ms1 := 0) (mc := 0) (ms := 0) [.inl (.int r17)] hG v_13 rfl lk_ProphecyShopModel_304 (w_R_advancing (d + 0) hG hr18) rfl rfl d_R_does_123 (aft_rw (fun G hG => ?_))
  refine Ev.at (pc' := 126) rfl (Ev.cong (st' := [.inl (.int r18.1)]) ?_ rfl rfl)
  have hP := kE _ (Option.some.inj h).symm
  exact ev_ireturn (st := []) rfl rfl d_R_does_126 (by rw [hP]; exact ⟨rfl, hG, rfl⟩)

/-- ProphecyShopModel.errorCode -/
def f_R_errorCode  (μ : Mem) : Option (Int32 × Mem) :=
  nm (st3 μ 13 0 7 0) (fun μ1 => some ((μ1 13 0 10, μ1)))
set_option maxRecDepth 100000 in
set_option maxHeartbeats 4000000 in
theorem w_R_errorCode {g : GL} {F G : RG} {nx : Nat} (d : Nat)  {μ : Mem}   {o : Int32 × Mem} (hG : LM vr 535 547 μ F G) (h : f_R_errorCode  μ = some o) : Mt g (d + 0) m_R_errorCode [.inr (0, off 13 0)] (G, nx) 0 0 (pRW vr 535 547 (rI o.1) o.2 F nx) := by
  unfold f_R_errorCode at h
  have kE : ∀ v, o = v → pRW vr 535 547 (rI o.1) o.2 F nx = pRW vr 535 547 (rI v.1) v.2 F nx := fun v e => by rw [e]
  refine Mt.of9 [some (.inr (0, off 13 0))] (by decide +kernel) rfl rfl rfl rfl ?_
  refine ev_aload_n (k0 := 0) rfl d_R_errorCode_0 ?_
  refine cw_iconst 0 d_R_errorCode_1 rfl ?_
  obtain ⟨μ1, e_μ1, h⟩ := nm_some h
  refine cv_put (.inl (.int 0)) 0 hG okR v_13 fl_ProphecyShopModel_73_13 rfl rfl okv_int d_R_errorCode_2 ?_
  intro G hG; rw [← e_μ1] at hG
  refine ev_aload_n (k0 := 0) rfl d_R_errorCode_5 ?_
  refine cv_get9 (.inl (.int (μ1 13 0 10))) hG v_13 fg_ProphecyShopModel_132_13 rfl rfl d_R_errorCode_6 ?_
  have hP := kE _ (Option.some.inj h).symm
  exact ev_ireturn (st := []) rfl rfl d_R_errorCode_9 (by rw [hP]; exact ⟨rfl, hG, rfl⟩)

/-- ProphecyShopModel.errorPosition -/
def f_R_errorPosition  (μ : Mem) : Option (Int32 × Mem) :=
  nm (st3 μ 13 0 7 0) (fun μ1 => some ((μ1 13 0 11, μ1)))
set_option maxRecDepth 100000 in
set_option maxHeartbeats 4000000 in
theorem w_R_errorPosition {g : GL} {F G : RG} {nx : Nat} (d : Nat)  {μ : Mem}   {o : Int32 × Mem} (hG : LM vr 535 547 μ F G) (h : f_R_errorPosition  μ = some o) : Mt g (d + 0) m_R_errorPosition [.inr (0, off 13 0)] (G, nx) 0 0 (pRW vr 535 547 (rI o.1) o.2 F nx) := by
  unfold f_R_errorPosition at h
  have kE : ∀ v, o = v → pRW vr 535 547 (rI o.1) o.2 F nx = pRW vr 535 547 (rI v.1) v.2 F nx := fun v e => by rw [e]
  refine Mt.of9 [some (.inr (0, off 13 0))] (by decide +kernel) rfl rfl rfl rfl ?_
  refine ev_aload_n (k0 := 0) rfl d_R_errorPosition_0 ?_
  refine cw_iconst 0 d_R_errorPosition_1 rfl ?_
  obtain ⟨μ1, e_μ1, h⟩ := nm_some h
  refine cv_put (.inl (.int 0)) 0 hG okR v_13 fl_ProphecyShopModel_73_13 rfl rfl okv_int d_R_errorPosition_2 ?_
  intro G hG; rw [← e_μ1] at hG
  refine ev_aload_n (k0 := 0) rfl d_R_errorPosition_5 ?_
  refine cv_get9 (.inl (.int (μ1 13 0 11))) hG v_13 fg_ProphecyShopModel_32_13 rfl rfl d_R_errorPosition_6 ?_
  have hP := kE _ (Option.some.inj h).symm
  exact ev_ireturn (st := []) rfl rfl d_R_errorPosition_9 (by rw [hP]; exact ⟨rfl, hG, rfl⟩)

/-- ProphecyShopModel.eventCount -/
def f_R_eventCount  (μ : Mem) : Option (Int32 × Mem) :=
  ((f_R_tells 6 μ)).bind (fun r1 => some ((r1.1, r1.2)))
set_option maxRecDepth 100000 in
set_option maxHeartbeats 4000000 in
theorem w_R_eventCount {g : GL} {F G : RG} {nx : Nat} (d : Nat)  {μ : Mem}   {o : Int32 × Mem} (hG : LM vr 535 547 μ F G) (h : f_R_eventCount  μ = some o) : Mt g (d + 1) m_R_eventCount [.inr (0, off 13 0)] (G, nx) 0 0 (pRW vr 535 547 (rI o.1) o.2 F nx) := by
  unfold f_R_eventCount at h
  have kE : ∀ v, o = v → pRW vr 535 547 (rI o.1) o.2 F nx = pRW vr 535 547 (rI v.1) v.2 F nx := fun v e => by rw [e]
  refine Mt.of9 [some (.inr (0, off 13 0))] (by decide +kernel) rfl rfl rfl rfl ?_
  refine ev_aload_n (k0 := 0) rfl d_R_eventCount_0 ?_
  refine cw_bipush 6 d_R_eventCount_1 rfl ?_
  obtain ⟨r1, hr1, h⟩ := bind_some9 h
  refine cv_V (d := d + 0) (mc1 := 0) (ms1 := 0) (mc := 0) (ms := 0) [.inl (.int 6)] hG v_13 rfl lk_ProphecyShopModel_324 (w_R_tells (d + 0) hG hr1) rfl rfl d_R_eventCount_3 (aft_rw (fun G hG => ?_))
  refine Ev.at (pc' := 6) rfl (Ev.cong (st' := [.inl (.int r1.1)]) ?_ rfl rfl)
  have hP := kE _ (Option.some.inj h).symm
  exact ev_ireturn (st := []) rfl rfl d_R_eventCount_6 (by rw [hP]; exact ⟨rfl, hG, rfl⟩)

/-- ProphecyShopModel.eventNamed -/
def f_R_eventNamed (x1 : Int32) (μ : Mem) : Option (Int32) :=
  chk (inb 6 524) (((f_R_named x1 16 1 (μ 40 0 (6 : Int32).toNatClampNeg) μ)).bind (fun r2 => some r2))
set_option maxRecDepth 100000 in
set_option maxHeartbeats 4000000 in
theorem w_R_eventNamed {g : GL} {F G : RG} {nx : Nat} (d : Nat) {x1 : Int32} {μ : Mem}   {o : Int32} (hG : LM vr 535 547 μ F G) (h : f_R_eventNamed x1 μ = some o) : Mt g (d + 1) m_R_eventNamed [.inr (0, off 13 0), .inl (.int x1)] (G, nx) 0 0 (pRO (rI o) (G, nx)) := by
  unfold f_R_eventNamed at h
  have kE : ∀ v, o = v → pRO (rI o) (G, nx) = pRO (rI v) (G, nx) := fun v e => by rw [e]
  refine Mt.of9 [some (.inr (0, off 13 0)), some (.inl (.int x1))] (by decide +kernel) rfl rfl rfl rfl ?_
  refine ev_aload_n (k0 := 0) rfl d_R_eventNamed_0 ?_
  refine ev_iload_n (k0 := 1) rfl d_R_eventNamed_1 ?_
  refine cw_bipush 16 d_R_eventNamed_2 rfl ?_
  refine cw_iconst 1 d_R_eventNamed_4 rfl ?_
  refine ev_aload_n (k0 := 0) rfl d_R_eventNamed_5 ?_
  refine cv_get9 (.inr (0, off 40 0)) hG v_13 fg_ProphecyShopModel_7_13 rfl rfl d_R_eventNamed_6 ?_
  refine cw_bipush 6 d_R_eventNamed_9 rfl ?_
  obtain ⟨b1, h⟩ := chk_some h
  refine cv_iald hG v_40 rfl rfl b1 rfl d_R_eventNamed_11 ?_
  obtain ⟨r2, hr2, h⟩ := bind_some9 h
  refine cv_V (d := d + 0) (mc1 := 0) (ms1 := 0) (mc := 0) (ms := 0) [.inl (.int x1), .inl (.int 16), .inl (.int 1), .inl (.int (μ 40 0 (6 : Int32).toNatClampNeg))] hG v_13 rfl lk_ProphecyShopModel_178 (w_R_named (d + 0) hG hr2) rfl rfl d_R_eventNamed_12 (aft_ro ?_)
  refine Ev.at (pc' := 15) rfl (Ev.cong (st' := [.inl (.int r2)]) ?_ rfl rfl)
  have hP := kE _ (Option.some.inj h).symm
  exact ev_ireturn (st := []) rfl rfl d_R_eventNamed_15 (by rw [hP]; exact ⟨rfl, rfl⟩)

/-- ProphecyShopModel.eventOf -/
def f_R_eventOf (x1 : Int32) (μ : Mem) : Option (Int32 × Mem) :=
  ((f_R_asked x1 1 μ)).bind (fun r1 => some ((r1.1, r1.2)))
set_option maxRecDepth 100000 in
set_option maxHeartbeats 4000000 in
theorem w_R_eventOf {g : GL} {F G : RG} {nx : Nat} (d : Nat) {x1 : Int32} {μ : Mem}   {o : Int32 × Mem} (hG : LM vr 535 547 μ F G) (h : f_R_eventOf x1 μ = some o) : Mt g (d + 3) m_R_eventOf [.inr (0, off 13 0), .inl (.int x1)] (G, nx) 0 0 (pRW vr 535 547 (rI o.1) o.2 F nx) := by
  unfold f_R_eventOf at h
  have kE : ∀ v, o = v → pRW vr 535 547 (rI o.1) o.2 F nx = pRW vr 535 547 (rI v.1) v.2 F nx := fun v e => by rw [e]
  refine Mt.of9 [some (.inr (0, off 13 0)), some (.inl (.int x1))] (by decide +kernel) rfl rfl rfl rfl ?_
  refine ev_aload_n (k0 := 0) rfl d_R_eventOf_0 ?_
  refine ev_iload_n (k0 := 1) rfl d_R_eventOf_1 ?_
  refine cw_iconst 1 d_R_eventOf_2 rfl ?_
  obtain ⟨r1, hr1, h⟩ := bind_some9 h
  refine cv_V (d := d + 2) (mc1 := 0) (ms1 := 0) (mc := 0) (ms := 0) [.inl (.int x1), .inl (.int 1)] hG v_13 rfl lk_ProphecyShopModel_349 (w_R_asked (d + 0) hG hr1) rfl rfl d_R_eventOf_3 (aft_rw (fun G hG => ?_))
  refine Ev.at (pc' := 6) rfl (Ev.cong (st' := [.inl (.int r1.1)]) ?_ rfl rfl)
  have hP := kE _ (Option.some.inj h).symm
  exact ev_ireturn (st := []) rfl rfl d_R_eventOf_6 (by rw [hP]; exact ⟨rfl, hG, rfl⟩)

/-- ProphecyShopModel.expectedAnswer -/
def f_R_expectedAnswer (x1 : Int32) (μ : Mem) : Option (Int32 × Mem) :=
  nm (st3 μ 13 0 7 0) (fun μ1 => ((f_R_isProphecy x1 μ1)).bind (fun r2 => ((f_R_right r2 1 μ1)).bind (fun r3 => if r3.1 = 0 then (some ((0, r3.2))) else (((f_R_wouldAnswer x1 r3.2)).bind (fun r4 => some ((r4, r3.2)))))))
set_option maxRecDepth 100000 in
set_option maxHeartbeats 4000000 in
theorem w_R_expectedAnswer {g : GL} {F G : RG} {nx : Nat} (d : Nat) {x1 : Int32} {μ : Mem}   {o : Int32 × Mem} (hG : LM vr 535 547 μ F G) (h : f_R_expectedAnswer x1 μ = some o) : Mt g (d + 3) m_R_expectedAnswer [.inr (0, off 13 0), .inl (.int x1)] (G, nx) 0 0 (pRW vr 535 547 (rI o.1) o.2 F nx) := by
  unfold f_R_expectedAnswer at h
  have kE : ∀ v, o = v → pRW vr 535 547 (rI o.1) o.2 F nx = pRW vr 535 547 (rI v.1) v.2 F nx := fun v e => by rw [e]
  refine Mt.of9 [some (.inr (0, off 13 0)), some (.inl (.int x1))] (by decide +kernel) rfl rfl rfl rfl ?_
  refine ev_aload_n (k0 := 0) rfl d_R_expectedAnswer_0 ?_
  refine cw_iconst 0 d_R_expectedAnswer_1 rfl ?_
  obtain ⟨μ1, e_μ1, h⟩ := nm_some h
  refine cv_put (.inl (.int 0)) 0 hG okR v_13 fl_ProphecyShopModel_73_13 rfl rfl okv_int d_R_expectedAnswer_2 ?_
  intro G hG; rw [← e_μ1] at hG
  refine ev_aload_n (k0 := 0) rfl d_R_expectedAnswer_5 ?_
  refine ev_aload_n (k0 := 0) rfl d_R_expectedAnswer_6 ?_
  refine ev_iload_n (k0 := 1) rfl d_R_expectedAnswer_7 ?_
  obtain ⟨r2, hr2, h⟩ := bind_some9 h
  refine cv_V (d := d + 2) (mc1 := 0) (ms1 := 0) (mc := 0) (ms := 0) [.inl (.int x1)] hG v_13 rfl lk_ProphecyShopModel_346 (w_R_isProphecy (d + 1) hG hr2) rfl rfl d_R_expectedAnswer_8 (aft_ro ?_)
  refine Ev.at (pc' := 11) rfl (Ev.cong (st' := [.inl (.int r2), .inr (0, off 13 0)]) ?_ rfl rfl)
  refine cw_iconst 1 d_R_expectedAnswer_11 rfl ?_
  obtain ⟨r3, hr3, h⟩ := bind_some9 h
  refine cv_V (d := d + 2) (mc1 := 0) (ms1 := 0) (mc := 0) (ms := 0) [.inl (.int r2), .inl (.int 1)] hG v_13 rfl lk_ProphecyShopModel_128 (w_R_right (d + 2) hG hr3) rfl rfl d_R_expectedAnswer_12 (aft_rw (fun G hG => ?_))
  refine Ev.at (pc' := 15) rfl (Ev.cong (st' := [.inl (.int r3.1)]) ?_ rfl rfl)
  refine ev_if_eq (tgt := 26) (by decide) d_R_expectedAnswer_15 (fun c => ?_) (fun c => ?_)
  · rw [if_pos c] at h
    refine cw_iconst 0 d_R_expectedAnswer_26 rfl ?_
    have hP := kE _ (Option.some.inj h).symm
    exact ev_ireturn (st := []) rfl rfl d_R_expectedAnswer_27 (by rw [hP]; exact ⟨rfl, hG, rfl⟩)
  · rw [if_neg c] at h
    refine ev_aload_n (k0 := 0) rfl d_R_expectedAnswer_18 ?_
    refine ev_iload_n (k0 := 1) rfl d_R_expectedAnswer_19 ?_
    obtain ⟨r4, hr4, h⟩ := bind_some9 h
    refine cv_V (d := d + 2) (mc1 := 0) (ms1 := 0) (mc := 0) (ms := 0) [.inl (.int x1)] hG v_13 rfl lk_ProphecyShopModel_107 (w_R_wouldAnswer (d + 0) hG hr4) rfl rfl d_R_expectedAnswer_20 (aft_ro ?_)
    refine Ev.at (pc' := 23) rfl (Ev.cong (st' := [.inl (.int r4)]) ?_ rfl rfl)
    refine ev_goto (tgt := 27) (by decide) d_R_expectedAnswer_23 ?_
    have hP := kE _ (Option.some.inj h).symm
    exact ev_ireturn (st := []) rfl rfl d_R_expectedAnswer_27 (by rw [hP]; exact ⟨rfl, hG, rfl⟩)

/-- ProphecyShopModel.packed -/
def s_R_packed_5 (x1 : Int32) (x2 : Int32) (x3 : Int32) (x4 : Int32) (μ : Mem) : Option ((Int32 × Int32) ⊕ (Int32)) :=
  if x2 ≤ x4 then (some (.inr x3)) else (chk (inb (x1 + x4) 800) (nm (((27 * x3) + (μ 46 0 (x1 + x4).toNatClampNeg)) - 96 : Int32) (fun v2 => some (.inl ((v2, x4 + 1))))))
def f_R_packed (x1 : Int32) (x2 : Int32) (μ : Mem) : Option (Int32) :=
  (it (fun (s : Int32 × Int32) => s_R_packed_5 x1 x2 s.1 s.2 μ) LIM ((0, 0))).bind (fun q1 => some q1)
set_option maxRecDepth 100000 in
set_option maxHeartbeats 4000000 in
theorem ws_R_packed_5 {g : GL} {F G : RG} {nx mc ms : Nat} {Post : RO → RM → Prop} (d : Nat) {x1 : Int32} {x2 : Int32} {x3 : Int32} {x4 : Int32} {μ : Mem}   {o : (Int32 × Int32) ⊕ (Int32)} (hG : LM vr 535 547 μ F G) (h : s_R_packed_5 x1 x2 x3 x4 μ = some o)
    (kC : ∀ s', o = .inl s' → Ev g (d + 0) m_R_packed 5 [some (.inr (0, off 13 0)), some (.inl (.int x1)), some (.inl (.int x2)), some (.inl (.int s'.1)), some (.inl (.int s'.2))] [] (G, nx) mc ms Post)
    (kX : ∀ r, o = .inr r → Ev g (d + 0) m_R_packed 35 [none, none, none, some (.inl (.int r)), none] [] (G, nx) mc ms Post)
    : Ev g (d + 0) m_R_packed 5 [some (.inr (0, off 13 0)), some (.inl (.int x1)), some (.inl (.int x2)), some (.inl (.int x3)), some (.inl (.int x4))] [] (G, nx) mc ms Post := by
  unfold s_R_packed_5 at h
  refine ev_iload (i := 4) rfl d_R_packed_5 ?_
  refine ev_iload_n (k0 := 2) rfl d_R_packed_7 ?_
  refine ev_icmp_ge (tgt := 35) (by decide) d_R_packed_8 (fun c => ?_) (fun c => ?_)
  · rw [if_pos c] at h
    exact Ev.sub (.n (.n (.n (.s (.n LSb.z))))) (kX _ (Option.some.inj h).symm)
  · rw [if_neg c] at h
    refine cw_bipush 27 d_R_packed_11 rfl ?_
    refine ev_iload_n (k0 := 3) rfl d_R_packed_13 ?_
    refine ev_imul d_R_packed_14 ?_
    refine ev_aload_n (k0 := 0) rfl d_R_packed_15 ?_
    refine cv_get9 (.inr (0, off 46 0)) hG v_13 fg_ProphecyShopModel_29_13 rfl rfl d_R_packed_16 ?_
    refine ev_iload_n (k0 := 1) rfl d_R_packed_19 ?_
    refine ev_iload (i := 4) rfl d_R_packed_20 ?_
    refine ev_iadd d_R_packed_22 ?_
    obtain ⟨b1, h⟩ := chk_some h
    refine cv_iald hG v_46 rfl rfl b1 rfl d_R_packed_23 ?_
    refine ev_iadd d_R_packed_24 ?_
    refine cw_bipush 96 d_R_packed_25 rfl ?_
    refine Ev.at (pc' := 27) rfl ?_
    refine ev_isub d_R_packed_27 ?_
    obtain ⟨v2, e_v2, h⟩ := nm_some h
    refine cw_istoreN_n 3 v2 e_v2 [some (.inr (0, off 13 0)), some (.inl (.int x1)), some (.inl (.int x2)), some (.inl (.int v2)), some (.inl (.int x4))] d_R_packed_28 rfl rfl rfl ?_
    refine cw_iincN 4 1 [some (.inr (0, off 13 0)), some (.inl (.int x1)), some (.inl (.int x2)), some (.inl (.int v2)), some (.inl (.int (x4 + 1)))] d_R_packed_29 rfl rfl rfl rfl rfl ?_
    refine ev_goto (tgt := 5) (by decide) d_R_packed_32 ?_
    exact kC _ (Option.some.inj h).symm
set_option maxRecDepth 100000 in
set_option maxHeartbeats 4000000 in
theorem w_R_packed {g : GL} {F G : RG} {nx : Nat} (d : Nat) {x1 : Int32} {x2 : Int32} {μ : Mem}   {o : Int32} (hG : LM vr 535 547 μ F G) (h : f_R_packed x1 x2 μ = some o) : Mt g (d + 0) m_R_packed [.inr (0, off 13 0), .inl (.int x1), .inl (.int x2)] (G, nx) 0 0 (pRO (rI o) (G, nx)) := by
  unfold f_R_packed at h
  have kE : ∀ v, o = v → pRO (rI o) (G, nx) = pRO (rI v) (G, nx) := fun v e => by rw [e]
  refine Mt.of9 [some (.inr (0, off 13 0)), some (.inl (.int x1)), some (.inl (.int x2)), none, none] (by decide +kernel) rfl rfl rfl rfl ?_
  refine cw_iconst 0 d_R_packed_0 rfl ?_
  refine cw_istoreN_n 3 0 rfl [some (.inr (0, off 13 0)), some (.inl (.int x1)), some (.inl (.int x2)), some (.inl (.int 0)), none] d_R_packed_1 rfl rfl rfl ?_
  refine cw_iconst 0 d_R_packed_2 rfl ?_
  refine cw_istoreN 4 0 rfl [some (.inr (0, off 13 0)), some (.inl (.int x1)), some (.inl (.int x2)), some (.inl (.int 0)), some (.inl (.int 0))] d_R_packed_3 rfl rfl rfl ?_
  obtain ⟨q1, hl, h⟩ := bind_some9 h
  refine it_ev (W := fun (s : Int32 × Int32) => Ev g (d + 0) m_R_packed 5 [some (.inr (0, off 13 0)), some (.inl (.int x1)), some (.inl (.int x2)), some (.inl (.int s.1)), some (.inl (.int s.2))] [] (G, nx) 0 0 (pRO (rI o) (G, nx))) (X := fun z => z = q1) rfl (fun s9 o9 hs kC9 kX9 => ?_) LIM _ hl
  refine ws_R_packed_5 d  hG hs kC9 (fun r_ e => ?_)
  · obtain rfl := (kX9 _ e).symm
    refine ev_iload_n (k0 := 3) rfl d_R_packed_35 ?_
    have hP := kE _ (Option.some.inj h).symm
    exact ev_ireturn (st := []) rfl rfl d_R_packed_36 (by rw [hP]; exact ⟨rfl, rfl⟩)

/-- ProphecyShopModel.findCustomer -/
def s_R_findCustomer_22  (x1 : Int32) (μ : Mem) : Option ((Int32) ⊕ ((Unit) ⊕ (Int32 × Mem))) :=
  if (μ 13 0 9) ≤ x1 then (some (.inr (.inl (())))) else (chk (inb x1 800) (((f_R_in (μ 46 0 x1.toNatClampNeg) 97 122 μ)).bind (fun r2 => if r2 = 0 then (some (.inr (.inr (((-1), μ))))) else (some (.inl (x1 + 1))))))
def f_R_findCustomer  (μ : Mem) : Option (Int32 × Mem) :=
  nm (st3 μ 13 0 7 0) (fun μ1 => ((f_R_in (μ1 13 0 9) 1 6 μ1)).bind (fun r2 => if r2 = 0 then (some (((-1), μ1))) else ((it (fun (s : Int32) => s_R_findCustomer_22 s μ1) LIM 0).bind (fun q3 => els q3 (fun r4 => ((f_R_packed 0 (μ1 13 0 9) μ1)).bind (fun r5 => ((f_R_customerNamed r5 μ1)).bind (fun r6 => some ((r6, μ1))))) (fun v => some v)))))
set_option maxRecDepth 100000 in
set_option maxHeartbeats 4000000 in
theorem ws_R_findCustomer_22 {g : GL} {F G : RG} {nx mc ms : Nat} {Post : RO → RM → Prop} (d : Nat)  {x1 : Int32} {μ : Mem}   {o : (Int32) ⊕ ((Unit) ⊕ (Int32 × Mem))} (hG : LM vr 535 547 μ F G) (h : s_R_findCustomer_22  x1 μ = some o)
    (kC : ∀ s', o = .inl s' → Ev g (d + 2) m_R_findCustomer 22 [some (.inr (0, off 13 0)), some (.inl (.int s'))] [] (G, nx) mc ms Post)
    (kX : ∀ r, o = .inr (.inl r) → Ev g (d + 2) m_R_findCustomer 54 [some (.inr (0, off 13 0)), none] [] (G, nx) mc ms Post)
    (kE : ∀ v, o = .inr (.inr v) → Post = pRW vr 535 547 (rI v.1) v.2 F nx) : Ev g (d + 2) m_R_findCustomer 22 [some (.inr (0, off 13 0)), some (.inl (.int x1))] [] (G, nx) mc ms Post := by
  unfold s_R_findCustomer_22 at h
  refine ev_iload_n (k0 := 1) rfl d_R_findCustomer_22 ?_
  refine ev_aload_n (k0 := 0) rfl d_R_findCustomer_23 ?_
  refine cv_get9 (.inl (.int (μ 13 0 9))) hG v_13 fg_ProphecyShopModel_64_13 rfl rfl d_R_findCustomer_24 ?_
  refine ev_icmp_ge (tgt := 54) (by decide) d_R_findCustomer_27 (fun c => ?_) (fun c => ?_)
  · rw [if_pos c] at h
    exact Ev.sub (.s (.n LSb.z)) (kX _ (Option.some.inj h).symm)
  · rw [if_neg c] at h
    refine ev_aload_n (k0 := 0) rfl d_R_findCustomer_30 ?_
    refine cv_get9 (.inr (0, off 46 0)) hG v_13 fg_ProphecyShopModel_29_13 rfl rfl d_R_findCustomer_31 ?_
    refine ev_iload_n (k0 := 1) rfl d_R_findCustomer_34 ?_
    obtain ⟨b1, h⟩ := chk_some h
    refine cv_iald hG v_46 rfl rfl b1 rfl d_R_findCustomer_35 ?_
    refine cw_bipush 97 d_R_findCustomer_36 rfl ?_
    refine cw_bipush 122 d_R_findCustomer_38 rfl ?_
    obtain ⟨r2, hr2, h⟩ := bind_some9 h
    refine Ev.z9 ?_
    refine cw_S (d := d + 1) (mc1 := 0) (ms1 := 0) (mc := mc) (ms := ms) [.inl (.int (μ 46 0 x1.toNatClampNeg)), .inl (.int 97), .inl (.int 122)] lk_ProphecyShopModel_76 (w_R_in (d + 1) hG hr2) rfl rfl d_R_findCustomer_40 (aft_ro ?_)
    refine Ev.at (pc' := 43) rfl (Ev.cong (st' := [.inl (.int r2)]) ?_ rfl rfl)
    refine ev_if_ne (tgt := 48) (by decide) d_R_findCustomer_43 (fun c => ?_) (fun c => ?_)
    · rw [if_neg c] at h
      refine cw_iincN 1 1 [some (.inr (0, off 13 0)), some (.inl (.int (x1 + 1)))] d_R_findCustomer_48 rfl rfl rfl rfl rfl ?_
      refine ev_goto (tgt := 22) (by decide) d_R_findCustomer_51 ?_
      exact kC _ (Option.some.inj h).symm
    · rw [if_pos c] at h
      refine cw_iconst (-1) d_R_findCustomer_46 rfl ?_
      have hP := kE _ (Option.some.inj h).symm
      exact ev_ireturn (st := []) rfl rfl d_R_findCustomer_47 (by rw [hP]; exact ⟨rfl, hG, rfl⟩)
set_option maxRecDepth 100000 in
set_option maxHeartbeats 4000000 in
theorem w_R_findCustomer {g : GL} {F G : RG} {nx : Nat} (d : Nat)  {μ : Mem}   {o : Int32 × Mem} (hG : LM vr 535 547 μ F G) (h : f_R_findCustomer  μ = some o) : Mt g (d + 2) m_R_findCustomer [.inr (0, off 13 0)] (G, nx) 0 0 (pRW vr 535 547 (rI o.1) o.2 F nx) := by
  unfold f_R_findCustomer at h
  have kE : ∀ v, o = v → pRW vr 535 547 (rI o.1) o.2 F nx = pRW vr 535 547 (rI v.1) v.2 F nx := fun v e => by rw [e]
  refine Mt.of9 [some (.inr (0, off 13 0)), none] (by decide +kernel) rfl rfl rfl rfl ?_
  refine ev_aload_n (k0 := 0) rfl d_R_findCustomer_0 ?_
  refine cw_iconst 0 d_R_findCustomer_1 rfl ?_
  obtain ⟨μ1, e_μ1, h⟩ := nm_some h
  refine cv_put (.inl (.int 0)) 0 hG okR v_13 fl_ProphecyShopModel_73_13 rfl rfl okv_int d_R_findCustomer_2 ?_
  intro G hG; rw [← e_μ1] at hG
  refine ev_aload_n (k0 := 0) rfl d_R_findCustomer_5 ?_
  refine cv_get9 (.inl (.int (μ1 13 0 9))) hG v_13 fg_ProphecyShopModel_64_13 rfl rfl d_R_findCustomer_6 ?_
  refine cw_iconst 1 d_R_findCustomer_9 rfl ?_
  refine cw_bipush 6 d_R_findCustomer_10 rfl ?_
  obtain ⟨r2, hr2, h⟩ := bind_some9 h
  refine cw_S (d := d + 1) (mc1 := 0) (ms1 := 0) (mc := 0) (ms := 0) [.inl (.int (μ1 13 0 9)), .inl (.int 1), .inl (.int 6)] lk_ProphecyShopModel_76 (w_R_in (d + 1) hG hr2) rfl rfl d_R_findCustomer_12 (aft_ro ?_)
  refine Ev.at (pc' := 15) rfl (Ev.cong (st' := [.inl (.int r2)]) ?_ rfl rfl)
  refine ev_if_ne (tgt := 20) (by decide) d_R_findCustomer_15 (fun c => ?_) (fun c => ?_)
  · rw [if_neg c] at h
    refine cw_iconst 0 d_R_findCustomer_20 rfl ?_
    refine cw_istoreN_n 1 0 rfl [some (.inr (0, off 13 0)), some (.inl (.int 0))] d_R_findCustomer_21 rfl rfl rfl ?_
    obtain ⟨q3, hl, h⟩ := bind_some9 h
    refine it_ev (W := fun (s : Int32) => Ev g (d + 2) m_R_findCustomer 22 [some (.inr (0, off 13 0)), some (.inl (.int s))] [] (G, nx) 0 0 (pRW vr 535 547 (rI o.1) o.2 F nx)) (X := fun z => z = q3) rfl (fun s9 o9 hs kC9 kX9 => ?_) LIM _ hl
    refine ws_R_findCustomer_22 d  hG hs kC9 (fun r4 e => ?_) (fun v e => ?_)
    · obtain rfl := kX9 _ e
      rw [els_l] at h
      refine ev_aload_n (k0 := 0) rfl d_R_findCustomer_54 ?_
      refine ev_aload_n (k0 := 0) rfl d_R_findCustomer_55 ?_
      refine cw_iconst 0 d_R_findCustomer_56 rfl ?_
      refine ev_aload_n (k0 := 0) rfl d_R_findCustomer_57 ?_
      refine cv_get9 (.inl (.int (μ1 13 0 9))) hG v_13 fg_ProphecyShopModel_64_13 rfl rfl d_R_findCustomer_58 ?_
      obtain ⟨r5, hr5, h⟩ := bind_some9 h
      refine cv_V (d := d + 1) (mc1 := 0) (ms1 := 0) (mc := 0) (ms := 0) [.inl (.int 0), .inl (.int (μ1 13 0 9))] hG v_13 rfl lk_ProphecyShopModel_175 (w_R_packed (d + 1) hG hr5) rfl rfl d_R_findCustomer_61 (aft_ro ?_)
      refine Ev.at (pc' := 64) rfl (Ev.cong (st' := [.inl (.int r5), .inr (0, off 13 0)]) ?_ rfl rfl)
      obtain ⟨r6, hr6, h⟩ := bind_some9 h
      refine cv_V (d := d + 1) (mc1 := 0) (ms1 := 0) (mc := 0) (ms := 0) [.inl (.int r5)] hG v_13 rfl lk_ProphecyShopModel_195 (w_R_customerNamed (d + 0) hG hr6) rfl rfl d_R_findCustomer_64 (aft_ro ?_)
      refine Ev.at (pc' := 67) rfl (Ev.cong (st' := [.inl (.int r6)]) ?_ rfl rfl)
      have hP := kE _ (Option.some.inj h).symm
      exact ev_ireturn (st := []) rfl rfl d_R_findCustomer_67 (by rw [hP]; exact ⟨rfl, hG, rfl⟩)
    · obtain rfl := kX9 _ e
      rw [els_r] at h
      exact kE _ (Option.some.inj h).symm
  · rw [if_pos c] at h
    refine cw_iconst (-1) d_R_findCustomer_18 rfl ?_
    have hP := kE _ (Option.some.inj h).symm
    exact ev_ireturn (st := []) rfl rfl d_R_findCustomer_19 (by rw [hP]; exact ⟨rfl, hG, rfl⟩)

/-- ProphecyShopModel.finds -/
def f_R_finds (x1 : Int32) (x2 : Int32) (μ : Mem) : Option (Int32 × Mem) :=
  nm (st3 μ 13 0 7 0) (fun μ1 => ((f_R_isEvent x1 μ1)).bind (fun r2 => ((if r2 = 0 then (some (0)) else (((f_R_isPlace x2 μ1)).bind (fun r6 => if r6 = 0 then (some (0)) else (some (1)))) : Option (Int32))).bind (fun q3 => ((f_R_right q3 1 μ1)).bind (fun r4 => chk (nb .boolean r4.1) (some ((r4.1, r4.2)))))))
set_option maxRecDepth 100000 in
set_option maxHeartbeats 4000000 in
theorem w_R_finds {g : GL} {F G : RG} {nx : Nat} (d : Nat) {x1 : Int32} {x2 : Int32} {μ : Mem}   {o : Int32 × Mem} (hG : LM vr 535 547 μ F G) (h : f_R_finds x1 x2 μ = some o) : Mt g (d + 2) m_R_finds [.inr (0, off 13 0), .inl (.int x1), .inl (.int x2)] (G, nx) 0 0 (pRW vr 535 547 (rI o.1) o.2 F nx) := by
  unfold f_R_finds at h
  have kE : ∀ v, o = v → pRW vr 535 547 (rI o.1) o.2 F nx = pRW vr 535 547 (rI v.1) v.2 F nx := fun v e => by rw [e]
  refine Mt.of9 [some (.inr (0, off 13 0)), some (.inl (.int x1)), some (.inl (.int x2))] (by decide +kernel) rfl rfl rfl rfl ?_
  refine ev_aload_n (k0 := 0) rfl d_R_finds_0 ?_
  refine cw_iconst 0 d_R_finds_1 rfl ?_
  obtain ⟨μ1, e_μ1, h⟩ := nm_some h
  refine cv_put (.inl (.int 0)) 0 hG okR v_13 fl_ProphecyShopModel_73_13 rfl rfl okv_int d_R_finds_2 ?_
  intro G hG; rw [← e_μ1] at hG
  refine ev_aload_n (k0 := 0) rfl d_R_finds_5 ?_
  refine ev_aload_n (k0 := 0) rfl d_R_finds_6 ?_
  refine ev_iload_n (k0 := 1) rfl d_R_finds_7 ?_
  obtain ⟨r2, hr2, h⟩ := bind_some9 h
  refine cv_V (d := d + 1) (mc1 := 0) (ms1 := 0) (mc := 0) (ms := 0) [.inl (.int x1)] hG v_13 rfl lk_ProphecyShopModel_330 (w_R_isEvent (d + 0) hG hr2) rfl rfl d_R_finds_8 (aft_ro ?_)
  refine Ev.at (pc' := 11) rfl (Ev.cong (st' := [.inl (.int r2), .inr (0, off 13 0)]) ?_ rfl rfl)
  obtain ⟨q3, hj, h⟩ := bind_some9 h
  have K_q3 : Ev g (d + 2) m_R_finds 27 [none, none, none] [.inl (.int q3), .inr (0, off 13 0)] (G, nx) 0 0 (pRW vr 535 547 (rI o.1) o.2 F nx) := by
    refine cw_iconst 1 d_R_finds_27 rfl ?_
    obtain ⟨r4, hr4, h⟩ := bind_some9 h
    refine cv_V (d := d + 1) (mc1 := 0) (ms1 := 0) (mc := 0) (ms := 0) [.inl (.int q3), .inl (.int 1)] hG v_13 rfl lk_ProphecyShopModel_128 (w_R_right (d + 1) hG hr4) rfl rfl d_R_finds_28 (aft_rw (fun G hG => ?_))
    refine Ev.at (pc' := 31) rfl (Ev.cong (st' := [.inl (.int r4.1)]) ?_ rfl rfl)
    obtain ⟨b5, h⟩ := chk_some h
    have hP := kE _ (Option.some.inj h).symm
    exact ev_ireturn (st := []) rfl (nb_eq b5) d_R_finds_31 (by rw [hP]; exact ⟨rfl, hG, rfl⟩)
  clear h
  have h := hj
  refine ev_if_eq (tgt := 26) (by decide) d_R_finds_11 (fun c => ?_) (fun c => ?_)
  · rw [if_pos c] at h
    refine cw_iconst 0 d_R_finds_26 rfl ?_
    obtain rfl := Option.some.inj h
    exact Ev.sub (.n (.n (.n LSb.z))) (K_q3)
  · rw [if_neg c] at h
    refine ev_aload_n (k0 := 0) rfl d_R_finds_14 ?_
    refine ev_iload_n (k0 := 2) rfl d_R_finds_15 ?_
    obtain ⟨r6, hr6, h⟩ := bind_some9 h
    refine cv_V (d := d + 1) (mc1 := 0) (ms1 := 0) (mc := 0) (ms := 0) [.inl (.int x2)] hG v_13 rfl lk_ProphecyShopModel_333 (w_R_isPlace (d + 0) hG hr6) rfl rfl d_R_finds_16 (aft_ro ?_)
    refine Ev.at (pc' := 19) rfl (Ev.cong (st' := [.inl (.int r6), .inr (0, off 13 0)]) ?_ rfl rfl)
    refine ev_if_eq (tgt := 26) (by decide) d_R_finds_19 (fun c => ?_) (fun c => ?_)
    · rw [if_pos c] at h
      refine cw_iconst 0 d_R_finds_26 rfl ?_
      obtain rfl := Option.some.inj h
      exact Ev.sub (.n (.n (.n LSb.z))) (K_q3)
    · rw [if_neg c] at h
      refine cw_iconst 1 d_R_finds_22 rfl ?_
      refine ev_goto (tgt := 27) (by decide) d_R_finds_23 ?_
      obtain rfl := Option.some.inj h
      exact Ev.sub (.n (.n (.n LSb.z))) (K_q3)

/-- ProphecyShopModel.firstDay -/
def f_R_firstDay (x1 : Int32) (μ : Mem) : Option (Int32 × Mem) :=
  ((f_R_asked x1 4 μ)).bind (fun r1 => some ((r1.1, r1.2)))
set_option maxRecDepth 100000 in
set_option maxHeartbeats 4000000 in
theorem w_R_firstDay {g : GL} {F G : RG} {nx : Nat} (d : Nat) {x1 : Int32} {μ : Mem}   {o : Int32 × Mem} (hG : LM vr 535 547 μ F G) (h : f_R_firstDay x1 μ = some o) : Mt g (d + 3) m_R_firstDay [.inr (0, off 13 0), .inl (.int x1)] (G, nx) 0 0 (pRW vr 535 547 (rI o.1) o.2 F nx) := by
  unfold f_R_firstDay at h
  have kE : ∀ v, o = v → pRW vr 535 547 (rI o.1) o.2 F nx = pRW vr 535 547 (rI v.1) v.2 F nx := fun v e => by rw [e]
  refine Mt.of9 [some (.inr (0, off 13 0)), some (.inl (.int x1))] (by decide +kernel) rfl rfl rfl rfl ?_
  refine ev_aload_n (k0 := 0) rfl d_R_firstDay_0 ?_
  refine ev_iload_n (k0 := 1) rfl d_R_firstDay_1 ?_
  refine cw_iconst 4 d_R_firstDay_2 rfl ?_
  obtain ⟨r1, hr1, h⟩ := bind_some9 h
  refine cv_V (d := d + 2) (mc1 := 0) (ms1 := 0) (mc := 0) (ms := 0) [.inl (.int x1), .inl (.int 4)] hG v_13 rfl lk_ProphecyShopModel_349 (w_R_asked (d + 0) hG hr1) rfl rfl d_R_firstDay_3 (aft_rw (fun G hG => ?_))
  refine Ev.at (pc' := 6) rfl (Ev.cong (st' := [.inl (.int r1.1)]) ?_ rfl rfl)
  have hP := kE _ (Option.some.inj h).symm
  exact ev_ireturn (st := []) rfl rfl d_R_firstDay_6 (by rw [hP]; exact ⟨rfl, hG, rfl⟩)

/-- ProphecyShopModel.seen -/
def f_R_seen (x1 : Int32) (μ : Mem) : Option (Int32) :=
  if (μ 13 0 9) ≤ x1 then (some ((-1))) else (chk (inb x1 800) (some (μ 46 0 x1.toNatClampNeg)))
set_option maxRecDepth 100000 in
set_option maxHeartbeats 4000000 in
theorem w_R_seen {g : GL} {F G : RG} {nx : Nat} (d : Nat) {x1 : Int32} {μ : Mem}   {o : Int32} (hG : LM vr 535 547 μ F G) (h : f_R_seen x1 μ = some o) : Mt g (d + 0) m_R_seen [.inr (0, off 13 0), .inl (.int x1)] (G, nx) 0 0 (pRO (rI o) (G, nx)) := by
  unfold f_R_seen at h
  have kE : ∀ v, o = v → pRO (rI o) (G, nx) = pRO (rI v) (G, nx) := fun v e => by rw [e]
  refine Mt.of9 [some (.inr (0, off 13 0)), some (.inl (.int x1))] (by decide +kernel) rfl rfl rfl rfl ?_
  refine ev_iload_n (k0 := 1) rfl d_R_seen_0 ?_
  refine ev_aload_n (k0 := 0) rfl d_R_seen_1 ?_
  refine cv_get9 (.inl (.int (μ 13 0 9))) hG v_13 fg_ProphecyShopModel_64_13 rfl rfl d_R_seen_2 ?_
  refine ev_icmp_ge (tgt := 17) (by decide) d_R_seen_5 (fun c => ?_) (fun c => ?_)
  · rw [if_pos c] at h
    refine cw_iconst (-1) d_R_seen_17 rfl ?_
    have hP := kE _ (Option.some.inj h).symm
    exact ev_ireturn (st := []) rfl rfl d_R_seen_18 (by rw [hP]; exact ⟨rfl, rfl⟩)
  · rw [if_neg c] at h
    refine ev_aload_n (k0 := 0) rfl d_R_seen_8 ?_
    refine cv_get9 (.inr (0, off 46 0)) hG v_13 fg_ProphecyShopModel_29_13 rfl rfl d_R_seen_9 ?_
    refine ev_iload_n (k0 := 1) rfl d_R_seen_12 ?_
    obtain ⟨b1, h⟩ := chk_some h
    refine cv_iald hG v_46 rfl rfl b1 rfl d_R_seen_13 ?_
    refine ev_goto (tgt := 18) (by decide) d_R_seen_14 ?_
    have hP := kE _ (Option.some.inj h).symm
    exact ev_ireturn (st := []) rfl rfl d_R_seen_18 (by rw [hP]; exact ⟨rfl, rfl⟩)

/-- ProphecyShopModel.reads -/
def s_R_reads_0   (μ : Mem) : Option ((Mem) ⊕ (Mem)) :=
  ((f_R_seen (μ 13 0 12) μ)).bind (fun r1 => if r1 = 32 then (nm (st3 μ 13 0 12 ((μ 13 0 12) + 1)) (fun μ2 => some (.inl μ2))) else (((f_R_seen (μ 13 0 12) μ)).bind (fun r3 => if r3 = 10 then (nm (st3 μ 13 0 12 ((μ 13 0 12) + 1)) (fun μ4 => some (.inl μ4))) else (some (.inr μ)))))
def s_R_reads_137   (μ : Mem) : Option ((Mem) ⊕ (Mem)) :=
  ((f_R_seen (μ 13 0 12) μ)).bind (fun r1 => ((f_R_in r1 48 57 μ)).bind (fun r2 => if r2 = 0 then (some (.inr μ)) else (((f_R_seen (μ 13 0 12) μ)).bind (fun r3 => nm (st3 μ 13 0 15 (if (((10 * (μ 13 0 15)) + r3) - 48) < 1000000 then (((10 * (μ 13 0 15)) + r3) - 48) else 1000000)) (fun μ4 => nm (st3 μ4 13 0 12 ((μ4 13 0 12) + 1)) (fun μ5 => some (.inl μ5)))))))
def s_R_reads_85   (μ : Mem) : Option ((Mem) ⊕ (Mem)) :=
  ((f_R_seen (μ 13 0 12) μ)).bind (fun r1 => ((f_R_in r1 97 122 μ)).bind (fun r2 => if r2 = 0 then (some (.inr μ)) else (nm (st3 μ 13 0 12 ((μ 13 0 12) + 1)) (fun μ3 => some (.inl μ3)))))
def f_R_reads  (μ : Mem) : Option (Mem) :=
  (it (fun (s : Mem) => s_R_reads_0 s) LIM μ).bind (fun q1 => nm (st3 q1 13 0 13 (q1 13 0 12)) (fun μ2 => ((f_R_seen (μ2 13 0 12) μ2)).bind (fun r3 => if r3 = ((-1)) then (nm (st3 μ2 13 0 14 0) (fun μ14 => some μ14)) else (((f_R_in r3 97 122 μ2)).bind (fun r4 => if r4 = 0 then (((f_R_in r3 48 57 μ2)).bind (fun r5 => if r5 = 0 then (((if r3 = 59 then (some (3)) else (if r3 = 40 then (some (3)) else (if r3 = 41 then (some (3)) else (some (4)))) : Option (Int32))).bind (fun q6 => nm (st3 μ2 13 0 14 q6) (fun μ7 => nm (st3 μ7 13 0 12 ((μ7 13 0 12) + 1)) (fun μ8 => some μ8)))) else (nm (st3 μ2 13 0 14 2) (fun μ9 => nm (st3 μ9 13 0 15 0) (fun μ10 => (it (fun (s : Mem) => s_R_reads_137 s) LIM μ10).bind (fun q11 => some q11)))))) else (nm (st3 μ2 13 0 14 1) (fun μ12 => (it (fun (s : Mem) => s_R_reads_85 s) LIM μ12).bind (fun q13 => some q13))))))))
set_option maxRecDepth 100000 in
set_option maxHeartbeats 4000000 in
theorem ws_R_reads_0 {g : GL} {F G : RG} {nx mc ms : Nat} {Post : RO → RM → Prop} (d : Nat)   {μ : Mem}   {o : (Mem) ⊕ (Mem)} (hG : LM vr 535 547 μ F G) (h : s_R_reads_0   μ = some o)
    (kC : ∀ s', o = .inl s' → ∀ G, LM vr 535 547 s' F G → Ev g (d + 1) m_R_reads 0 [some (.inr (0, off 13 0)), none] [] (G, nx) mc ms Post)
    (kX : ∀ r, o = .inr r → ∀ G, LM vr 535 547 r F G → Ev g (d + 1) m_R_reads 39 [some (.inr (0, off 13 0)), none] [] (G, nx) mc ms Post)
    : Ev g (d + 1) m_R_reads 0 [some (.inr (0, off 13 0)), none] [] (G, nx) mc ms Post := by
  unfold s_R_reads_0 at h
  refine ev_aload_n (k0 := 0) rfl d_R_reads_0 ?_
  refine ev_aload_n (k0 := 0) rfl d_R_reads_1 ?_
  refine cv_get9 (.inl (.int (μ 13 0 12))) hG v_13 fg_ProphecyShopModel_135_13 rfl rfl d_R_reads_2 ?_
  obtain ⟨r1, hr1, h⟩ := bind_some9 h
  refine Ev.z9 ?_
  refine cv_V (d := d + 0) (mc1 := 0) (ms1 := 0) (mc := mc) (ms := ms) [.inl (.int (μ 13 0 12))] hG v_13 rfl lk_ProphecyShopModel_138 (w_R_seen (d + 0) hG hr1) rfl rfl d_R_reads_5 (aft_ro ?_)
  refine Ev.at (pc' := 8) rfl (Ev.cong (st' := [.inl (.int r1)]) ?_ rfl rfl)
  refine cw_bipush 32 d_R_reads_8 rfl ?_
  refine ev_icmp_eq (tgt := 26) (by decide) d_R_reads_10 (fun c => ?_) (fun c => ?_)
  · rw [if_pos c] at h
    refine ev_aload_n (k0 := 0) rfl d_R_reads_26 ?_
    refine ev_dup rfl d_R_reads_27 ?_
    refine cv_get9 (.inl (.int (μ 13 0 12))) hG v_13 fg_ProphecyShopModel_135_13 rfl rfl d_R_reads_28 ?_
    refine cw_iconst 1 d_R_reads_31 rfl ?_
    refine ev_iadd d_R_reads_32 ?_
    obtain ⟨μ2, e_μ2, h⟩ := nm_some h
    refine cv_put (.inl (.int ((μ 13 0 12) + 1))) ((μ 13 0 12) + 1) hG okR v_13 fl_ProphecyShopModel_135_13 rfl rfl okv_int d_R_reads_33 ?_
    intro G hG; rw [← e_μ2] at hG
    refine ev_goto (tgt := 0) (by decide) d_R_reads_36 ?_
    exact kC _ (Option.some.inj h).symm G hG
  · rw [if_neg c] at h
    refine ev_aload_n (k0 := 0) rfl d_R_reads_13 ?_
    refine ev_aload_n (k0 := 0) rfl d_R_reads_14 ?_
    refine cv_get9 (.inl (.int (μ 13 0 12))) hG v_13 fg_ProphecyShopModel_135_13 rfl rfl d_R_reads_15 ?_
    obtain ⟨r3, hr3, h⟩ := bind_some9 h
    refine Ev.z9 ?_
    refine cv_V (d := d + 0) (mc1 := 0) (ms1 := 0) (mc := mc) (ms := ms) [.inl (.int (μ 13 0 12))] hG v_13 rfl lk_ProphecyShopModel_138 (w_R_seen (d + 0) hG hr3) rfl rfl d_R_reads_18 (aft_ro ?_)
    refine Ev.at (pc' := 21) rfl (Ev.cong (st' := [.inl (.int r3)]) ?_ rfl rfl)
    refine cw_bipush 10 d_R_reads_21 rfl ?_
    refine ev_icmp_ne (tgt := 39) (by decide) d_R_reads_23 (fun c => ?_) (fun c => ?_)
    · rw [if_neg c] at h
      exact kX _ (Option.some.inj h).symm G hG
    · rw [if_pos c] at h
      refine ev_aload_n (k0 := 0) rfl d_R_reads_26 ?_
      refine ev_dup rfl d_R_reads_27 ?_
      refine cv_get9 (.inl (.int (μ 13 0 12))) hG v_13 fg_ProphecyShopModel_135_13 rfl rfl d_R_reads_28 ?_
      refine cw_iconst 1 d_R_reads_31 rfl ?_
      refine ev_iadd d_R_reads_32 ?_
      obtain ⟨μ4, e_μ4, h⟩ := nm_some h
      refine cv_put (.inl (.int ((μ 13 0 12) + 1))) ((μ 13 0 12) + 1) hG okR v_13 fl_ProphecyShopModel_135_13 rfl rfl okv_int d_R_reads_33 ?_
      intro G hG; rw [← e_μ4] at hG
      refine ev_goto (tgt := 0) (by decide) d_R_reads_36 ?_
      exact kC _ (Option.some.inj h).symm G hG
set_option maxRecDepth 100000 in
set_option maxHeartbeats 4000000 in
theorem ws_R_reads_137 {g : GL} {F G : RG} {nx mc ms : Nat} {Post : RO → RM → Prop} (d : Nat)   {μ : Mem}   {o : (Mem) ⊕ (Mem)} (hG : LM vr 535 547 μ F G) (h : s_R_reads_137   μ = some o)
    (kC : ∀ s', o = .inl s' → ∀ G, LM vr 535 547 s' F G → Ev g (d + 1) m_R_reads 137 [some (.inr (0, off 13 0)), none] [] (G, nx) mc ms Post)
    (kX : ∀ r, o = .inr r → ∀ G, LM vr 535 547 r F G → Ev g (d + 1) m_R_reads 233 [none, none] [] (G, nx) mc ms Post)
    : Ev g (d + 1) m_R_reads 137 [some (.inr (0, off 13 0)), none] [] (G, nx) mc ms Post := by
  unfold s_R_reads_137 at h
  refine ev_aload_n (k0 := 0) rfl d_R_reads_137 ?_
  refine ev_aload_n (k0 := 0) rfl d_R_reads_138 ?_
  refine cv_get9 (.inl (.int (μ 13 0 12))) hG v_13 fg_ProphecyShopModel_135_13 rfl rfl d_R_reads_139 ?_
  obtain ⟨r1, hr1, h⟩ := bind_some9 h
  refine Ev.z9 ?_
  refine cv_V (d := d + 0) (mc1 := 0) (ms1 := 0) (mc := mc) (ms := ms) [.inl (.int (μ 13 0 12))] hG v_13 rfl lk_ProphecyShopModel_138 (w_R_seen (d + 0) hG hr1) rfl rfl d_R_reads_142 (aft_ro ?_)
  refine Ev.at (pc' := 145) rfl (Ev.cong (st' := [.inl (.int r1)]) ?_ rfl rfl)
  refine cw_bipush 48 d_R_reads_145 rfl ?_
  refine cw_bipush 57 d_R_reads_147 rfl ?_
  obtain ⟨r2, hr2, h⟩ := bind_some9 h
  refine Ev.z9 ?_
  refine cw_S (d := d + 0) (mc1 := 0) (ms1 := 0) (mc := mc) (ms := ms) [.inl (.int r1), .inl (.int 48), .inl (.int 57)] lk_ProphecyShopModel_76 (w_R_in (d + 0) hG hr2) rfl rfl d_R_reads_149 (aft_ro ?_)
  refine Ev.at (pc' := 152) rfl (Ev.cong (st' := [.inl (.int r2)]) ?_ rfl rfl)
  refine ev_if_eq (tgt := 233) (by decide) d_R_reads_152 (fun c => ?_) (fun c => ?_)
  · rw [if_pos c] at h
    exact Ev.sub (.n (.n LSb.z)) (kX _ (Option.some.inj h).symm G hG)
  · rw [if_neg c] at h
    refine ev_aload_n (k0 := 0) rfl d_R_reads_155 ?_
    refine ev_ldc (v := 1000000) wg_1718 d_R_reads_156 ?_
    refine cw_bipush 10 d_R_reads_158 rfl ?_
    refine ev_aload_n (k0 := 0) rfl d_R_reads_160 ?_
    refine cv_get9 (.inl (.int (μ 13 0 15))) hG v_13 fg_ProphecyShopModel_147_13 rfl rfl d_R_reads_161 ?_
    refine ev_imul d_R_reads_164 ?_
    refine ev_aload_n (k0 := 0) rfl d_R_reads_165 ?_
    refine ev_aload_n (k0 := 0) rfl d_R_reads_166 ?_
    refine cv_get9 (.inl (.int (μ 13 0 12))) hG v_13 fg_ProphecyShopModel_135_13 rfl rfl d_R_reads_167 ?_
    obtain ⟨r3, hr3, h⟩ := bind_some9 h
    refine Ev.z9 ?_
    refine cv_V (d := d + 0) (mc1 := 0) (ms1 := 0) (mc := mc) (ms := ms) [.inl (.int (μ 13 0 12))] hG v_13 rfl lk_ProphecyShopModel_138 (w_R_seen (d + 0) hG hr3) rfl rfl d_R_reads_170 (aft_ro ?_)
    refine Ev.at (pc' := 173) rfl (Ev.cong (st' := [.inl (.int r3), .inl (.int (10 * (μ 13 0 15))), .inl (.int 1000000), .inr (0, off 13 0)]) ?_ rfl rfl)
    refine ev_iadd d_R_reads_173 ?_
    refine cw_bipush 48 d_R_reads_174 rfl ?_
    refine ev_isub d_R_reads_176 ?_
    refine ev_mmin (Nat.le_of_ble_eq_true rfl) ⟨wg_1719, wg_536, wg_17, wg_537⟩ d_R_reads_177 ?_
    obtain ⟨μ4, e_μ4, h⟩ := nm_some h
    refine cv_put (.inl (.int (if (((10 * (μ 13 0 15)) + r3) - 48) < 1000000 then (((10 * (μ 13 0 15)) + r3) - 48) else 1000000))) (if (((10 * (μ 13 0 15)) + r3) - 48) < 1000000 then (((10 * (μ 13 0 15)) + r3) - 48) else 1000000) hG okR v_13 fl_ProphecyShopModel_147_13 rfl rfl okv_int d_R_reads_180 ?_
    intro G hG; rw [← e_μ4] at hG
    refine ev_aload_n (k0 := 0) rfl d_R_reads_183 ?_
    refine ev_dup rfl d_R_reads_184 ?_
    refine cv_get9 (.inl (.int (μ4 13 0 12))) hG v_13 fg_ProphecyShopModel_135_13 rfl rfl d_R_reads_185 ?_
    refine cw_iconst 1 d_R_reads_188 rfl ?_
    refine ev_iadd d_R_reads_189 ?_
    obtain ⟨μ5, e_μ5, h⟩ := nm_some h
    refine cv_put (.inl (.int ((μ4 13 0 12) + 1))) ((μ4 13 0 12) + 1) hG okR v_13 fl_ProphecyShopModel_135_13 rfl rfl okv_int d_R_reads_190 ?_
    intro G hG; rw [← e_μ5] at hG
    refine Ev.at (pc' := 193) rfl ?_
    refine ev_goto (tgt := 137) (by decide) d_R_reads_193 ?_
    exact kC _ (Option.some.inj h).symm G hG
set_option maxRecDepth 100000 in
set_option maxHeartbeats 4000000 in
theorem ws_R_reads_85 {g : GL} {F G : RG} {nx mc ms : Nat} {Post : RO → RM → Prop} (d : Nat)   {μ : Mem}   {o : (Mem) ⊕ (Mem)} (hG : LM vr 535 547 μ F G) (h : s_R_reads_85   μ = some o)
    (kC : ∀ s', o = .inl s' → ∀ G, LM vr 535 547 s' F G → Ev g (d + 1) m_R_reads 85 [some (.inr (0, off 13 0)), none] [] (G, nx) mc ms Post)
    (kX : ∀ r, o = .inr r → ∀ G, LM vr 535 547 r F G → Ev g (d + 1) m_R_reads 233 [none, none] [] (G, nx) mc ms Post)
    : Ev g (d + 1) m_R_reads 85 [some (.inr (0, off 13 0)), none] [] (G, nx) mc ms Post := by
  unfold s_R_reads_85 at h
  refine ev_aload_n (k0 := 0) rfl d_R_reads_85 ?_
  refine ev_aload_n (k0 := 0) rfl d_R_reads_86 ?_
  refine cv_get9 (.inl (.int (μ 13 0 12))) hG v_13 fg_ProphecyShopModel_135_13 rfl rfl d_R_reads_87 ?_
  obtain ⟨r1, hr1, h⟩ := bind_some9 h
  refine Ev.z9 ?_
  refine cv_V (d := d + 0) (mc1 := 0) (ms1 := 0) (mc := mc) (ms := ms) [.inl (.int (μ 13 0 12))] hG v_13 rfl lk_ProphecyShopModel_138 (w_R_seen (d + 0) hG hr1) rfl rfl d_R_reads_90 (aft_ro ?_)
  refine Ev.at (pc' := 93) rfl (Ev.cong (st' := [.inl (.int r1)]) ?_ rfl rfl)
  refine cw_bipush 97 d_R_reads_93 rfl ?_
  refine cw_bipush 122 d_R_reads_95 rfl ?_
  obtain ⟨r2, hr2, h⟩ := bind_some9 h
  refine Ev.z9 ?_
  refine cw_S (d := d + 0) (mc1 := 0) (ms1 := 0) (mc := mc) (ms := ms) [.inl (.int r1), .inl (.int 97), .inl (.int 122)] lk_ProphecyShopModel_76 (w_R_in (d + 0) hG hr2) rfl rfl d_R_reads_97 (aft_ro ?_)
  refine Ev.at (pc' := 100) rfl (Ev.cong (st' := [.inl (.int r2)]) ?_ rfl rfl)
  refine ev_if_eq (tgt := 233) (by decide) d_R_reads_100 (fun c => ?_) (fun c => ?_)
  · rw [if_pos c] at h
    exact Ev.sub (.n (.n LSb.z)) (kX _ (Option.some.inj h).symm G hG)
  · rw [if_neg c] at h
    refine ev_aload_n (k0 := 0) rfl d_R_reads_103 ?_
    refine ev_dup rfl d_R_reads_104 ?_
    refine cv_get9 (.inl (.int (μ 13 0 12))) hG v_13 fg_ProphecyShopModel_135_13 rfl rfl d_R_reads_105 ?_
    refine cw_iconst 1 d_R_reads_108 rfl ?_
    refine ev_iadd d_R_reads_109 ?_
    obtain ⟨μ3, e_μ3, h⟩ := nm_some h
    refine cv_put (.inl (.int ((μ 13 0 12) + 1))) ((μ 13 0 12) + 1) hG okR v_13 fl_ProphecyShopModel_135_13 rfl rfl okv_int d_R_reads_110 ?_
    intro G hG; rw [← e_μ3] at hG
    refine ev_goto (tgt := 85) (by decide) d_R_reads_113 ?_
    exact kC _ (Option.some.inj h).symm G hG
set_option maxRecDepth 100000 in
set_option maxHeartbeats 4000000 in
theorem w_R_reads {g : GL} {F G : RG} {nx : Nat} (d : Nat)  {μ : Mem}   {o : Mem} (hG : LM vr 535 547 μ F G) (h : f_R_reads  μ = some o) : Mt g (d + 1) m_R_reads [.inr (0, off 13 0)] (G, nx) 0 0 (pRW vr 535 547 rV o F nx) := by
  unfold f_R_reads at h
  have kE : ∀ v, o = v → pRW vr 535 547 rV o F nx = pRW vr 535 547 rV v F nx := fun v e => by rw [e]
  refine Mt.of9 [some (.inr (0, off 13 0)), none] (by decide +kernel) rfl rfl rfl rfl ?_
  obtain ⟨q1, hl, h⟩ := bind_some9 h
  refine it_ev (W := fun (s : Mem) => ∀ G, LM vr 535 547 s F G → Ev g (d + 1) m_R_reads 0 [some (.inr (0, off 13 0)), none] [] (G, nx) 0 0 (pRW vr 535 547 rV o F nx)) (X := fun z => z = q1) rfl (fun s9 o9 hs kC9 kX9 => ?_) LIM _ hl G hG
  intro G hG
  refine ws_R_reads_0 d  hG hs kC9 (fun r_ e G hG => ?_)
  · obtain rfl := (kX9 _ e).symm
    refine ev_aload_n (k0 := 0) rfl d_R_reads_39 ?_
    refine ev_aload_n (k0 := 0) rfl d_R_reads_40 ?_
    refine cv_get9 (.inl (.int (q1 13 0 12))) hG v_13 fg_ProphecyShopModel_135_13 rfl rfl d_R_reads_41 ?_
    obtain ⟨μ2, e_μ2, h⟩ := nm_some h
    refine cv_put (.inl (.int (q1 13 0 12))) (q1 13 0 12) hG okR v_13 fl_ProphecyShopModel_141_13 rfl rfl okv_int d_R_reads_44 ?_
    intro G hG; rw [← e_μ2] at hG
    refine ev_aload_n (k0 := 0) rfl d_R_reads_47 ?_
    refine ev_aload_n (k0 := 0) rfl d_R_reads_48 ?_
    refine cv_get9 (.inl (.int (μ2 13 0 12))) hG v_13 fg_ProphecyShopModel_135_13 rfl rfl d_R_reads_49 ?_
    obtain ⟨r3, hr3, h⟩ := bind_some9 h
    refine cv_V (d := d + 0) (mc1 := 0) (ms1 := 0) (mc := 0) (ms := 0) [.inl (.int (μ2 13 0 12))] hG v_13 rfl lk_ProphecyShopModel_138 (w_R_seen (d + 0) hG hr3) rfl rfl d_R_reads_52 (aft_ro ?_)
    refine Ev.at (pc' := 55) rfl (Ev.cong (st' := [.inl (.int r3)]) ?_ rfl rfl)
    refine cw_istoreN_n 1 r3 rfl [some (.inr (0, off 13 0)), some (.inl (.int r3))] d_R_reads_55 rfl rfl rfl ?_
    refine ev_iload_n (k0 := 1) rfl d_R_reads_56 ?_
    refine cw_iconst (-1) d_R_reads_57 rfl ?_
    refine ev_icmp_ne (tgt := 69) (by decide) d_R_reads_58 (fun c => ?_) (fun c => ?_)
    · rw [if_neg c] at h
      refine ev_iload_n (k0 := 1) rfl d_R_reads_69 ?_
      refine cw_bipush 97 d_R_reads_70 rfl ?_
      refine cw_bipush 122 d_R_reads_72 rfl ?_
      obtain ⟨r4, hr4, h⟩ := bind_some9 h
      refine cw_S (d := d + 0) (mc1 := 0) (ms1 := 0) (mc := 0) (ms := 0) [.inl (.int r3), .inl (.int 97), .inl (.int 122)] lk_ProphecyShopModel_76 (w_R_in (d + 0) hG hr4) rfl rfl d_R_reads_74 (aft_ro ?_)
      refine Ev.at (pc' := 77) rfl (Ev.cong (st' := [.inl (.int r4)]) ?_ rfl rfl)
      refine ev_if_eq (tgt := 116) (by decide) d_R_reads_77 (fun c => ?_) (fun c => ?_)
      · rw [if_pos c] at h
        refine ev_iload_n (k0 := 1) rfl d_R_reads_116 ?_
        refine cw_bipush 48 d_R_reads_117 rfl ?_
        refine cw_bipush 57 d_R_reads_119 rfl ?_
        obtain ⟨r5, hr5, h⟩ := bind_some9 h
        refine cw_S (d := d + 0) (mc1 := 0) (ms1 := 0) (mc := 0) (ms := 0) [.inl (.int r3), .inl (.int 48), .inl (.int 57)] lk_ProphecyShopModel_76 (w_R_in (d + 0) hG hr5) rfl rfl d_R_reads_121 (aft_ro ?_)
        refine Ev.at (pc' := 124) rfl (Ev.cong (st' := [.inl (.int r5)]) ?_ rfl rfl)
        refine ev_if_eq (tgt := 196) (by decide) d_R_reads_124 (fun c => ?_) (fun c => ?_)
        · rw [if_pos c] at h
          refine ev_aload_n (k0 := 0) rfl d_R_reads_196 ?_
          refine ev_iload_n (k0 := 1) rfl d_R_reads_197 ?_
          refine cw_bipush 59 d_R_reads_198 rfl ?_
          obtain ⟨q6, hj, h⟩ := bind_some9 h
          have K_q6 : Ev g (d + 1) m_R_reads 220 [some (.inr (0, off 13 0)), none] [.inl (.int q6), .inr (0, off 13 0)] (G, nx) 0 0 (pRW vr 535 547 rV o F nx) := by
            obtain ⟨μ7, e_μ7, h⟩ := nm_some h
            refine cv_put (.inl (.int q6)) q6 hG okR v_13 fl_ProphecyShopModel_144_13 rfl rfl okv_int d_R_reads_220 ?_
            intro G hG; rw [← e_μ7] at hG
            refine ev_aload_n (k0 := 0) rfl d_R_reads_223 ?_
            refine ev_dup rfl d_R_reads_224 ?_
            refine cv_get9 (.inl (.int (μ7 13 0 12))) hG v_13 fg_ProphecyShopModel_135_13 rfl rfl d_R_reads_225 ?_
            refine cw_iconst 1 d_R_reads_228 rfl ?_
            refine ev_iadd d_R_reads_229 ?_
            obtain ⟨μ8, e_μ8, h⟩ := nm_some h
            refine cv_put (.inl (.int ((μ7 13 0 12) + 1))) ((μ7 13 0 12) + 1) hG okR v_13 fl_ProphecyShopModel_135_13 rfl rfl okv_int d_R_reads_230 ?_
            intro G hG; rw [← e_μ8] at hG
            have hP := kE _ (Option.some.inj h).symm
            exact ev_return (st := []) rfl d_R_reads_233 (by rw [hP]; exact ⟨rfl, hG, rfl⟩)
          clear h
          have h := hj
          refine ev_icmp_eq (tgt := 215) (by decide) d_R_reads_200 (fun c => ?_) (fun c => ?_)
          · rw [if_pos c] at h
            refine cw_iconst 3 d_R_reads_215 rfl ?_
            refine ev_goto (tgt := 220) (by decide) d_R_reads_216 ?_
            obtain rfl := Option.some.inj h
            exact Ev.sub (.s (.n LSb.z)) (K_q6)
          · rw [if_neg c] at h
            refine ev_iload_n (k0 := 1) rfl d_R_reads_203 ?_
            refine cw_bipush 40 d_R_reads_204 rfl ?_
            refine ev_icmp_eq (tgt := 215) (by decide) d_R_reads_206 (fun c => ?_) (fun c => ?_)
            · rw [if_pos c] at h
              refine cw_iconst 3 d_R_reads_215 rfl ?_
              refine ev_goto (tgt := 220) (by decide) d_R_reads_216 ?_
              obtain rfl := Option.some.inj h
              exact Ev.sub (.s (.n LSb.z)) (K_q6)
            · rw [if_neg c] at h
              refine ev_iload_n (k0 := 1) rfl d_R_reads_209 ?_
              refine cw_bipush 41 d_R_reads_210 rfl ?_
              refine ev_icmp_ne (tgt := 219) (by decide) d_R_reads_212 (fun c => ?_) (fun c => ?_)
              · rw [if_neg c] at h
                refine cw_iconst 4 d_R_reads_219 rfl ?_
                obtain rfl := Option.some.inj h
                exact Ev.sub (.s (.n LSb.z)) (K_q6)
              · rw [if_pos c] at h
                refine cw_iconst 3 d_R_reads_215 rfl ?_
                refine ev_goto (tgt := 220) (by decide) d_R_reads_216 ?_
                obtain rfl := Option.some.inj h
                exact Ev.sub (.s (.n LSb.z)) (K_q6)
        · rw [if_neg c] at h
          refine ev_aload_n (k0 := 0) rfl d_R_reads_127 ?_
          refine cw_iconst 2 d_R_reads_128 rfl ?_
          obtain ⟨μ9, e_μ9, h⟩ := nm_some h
          refine cv_put (.inl (.int 2)) 2 hG okR v_13 fl_ProphecyShopModel_144_13 rfl rfl okv_int d_R_reads_129 ?_
          intro G hG; rw [← e_μ9] at hG
          refine ev_aload_n (k0 := 0) rfl d_R_reads_132 ?_
          refine cw_iconst 0 d_R_reads_133 rfl ?_
          obtain ⟨μ10, e_μ10, h⟩ := nm_some h
          refine cv_put (.inl (.int 0)) 0 hG okR v_13 fl_ProphecyShopModel_147_13 rfl rfl okv_int d_R_reads_134 ?_
          intro G hG; rw [← e_μ10] at hG
          obtain ⟨q11, hl, h⟩ := bind_some9 h
          refine Ev.sub (ls' := [some (.inr (0, off 13 0)), none]) (.s (.n LSb.z)) ?_
          refine it_ev (W := fun (s : Mem) => ∀ G, LM vr 535 547 s F G → Ev g (d + 1) m_R_reads 137 [some (.inr (0, off 13 0)), none] [] (G, nx) 0 0 (pRW vr 535 547 rV o F nx)) (X := fun z => z = q11) rfl (fun s9 o9 hs kC9 kX9 => ?_) LIM _ hl G hG
          intro G hG
          refine ws_R_reads_137 d  hG hs kC9 (fun r_ e G hG => ?_)
          · obtain rfl := (kX9 _ e).symm
            have hP := kE _ (Option.some.inj h).symm
            exact ev_return (st := []) rfl d_R_reads_233 (by rw [hP]; exact ⟨rfl, hG, rfl⟩)
      · rw [if_neg c] at h
        refine ev_aload_n (k0 := 0) rfl d_R_reads_80 ?_
        refine cw_iconst 1 d_R_reads_81 rfl ?_
        obtain ⟨μ12, e_μ12, h⟩ := nm_some h
        refine cv_put (.inl (.int 1)) 1 hG okR v_13 fl_ProphecyShopModel_144_13 rfl rfl okv_int d_R_reads_82 ?_
        intro G hG; rw [← e_μ12] at hG
        obtain ⟨q13, hl, h⟩ := bind_some9 h
        refine Ev.sub (ls' := [some (.inr (0, off 13 0)), none]) (.s (.n LSb.z)) ?_
        refine it_ev (W := fun (s : Mem) => ∀ G, LM vr 535 547 s F G → Ev g (d + 1) m_R_reads 85 [some (.inr (0, off 13 0)), none] [] (G, nx) 0 0 (pRW vr 535 547 rV o F nx)) (X := fun z => z = q13) rfl (fun s9 o9 hs kC9 kX9 => ?_) LIM _ hl G hG
        intro G hG
        refine ws_R_reads_85 d  hG hs kC9 (fun r_ e G hG => ?_)
        · obtain rfl := (kX9 _ e).symm
          have hP := kE _ (Option.some.inj h).symm
          exact ev_return (st := []) rfl d_R_reads_233 (by rw [hP]; exact ⟨rfl, hG, rfl⟩)
    · rw [if_pos c] at h
      refine ev_aload_n (k0 := 0) rfl d_R_reads_61 ?_
      refine cw_iconst 0 d_R_reads_62 rfl ?_
      obtain ⟨μ14, e_μ14, h⟩ := nm_some h
      refine cv_put (.inl (.int 0)) 0 hG okR v_13 fl_ProphecyShopModel_144_13 rfl rfl okv_int d_R_reads_63 ?_
      intro G hG; rw [← e_μ14] at hG
      refine ev_goto (tgt := 233) (by decide) d_R_reads_66 ?_
      have hP := kE _ (Option.some.inj h).symm
      exact ev_return (st := []) rfl d_R_reads_233 (by rw [hP]; exact ⟨rfl, hG, rfl⟩)

/-- ProphecyShopModel.goesOn -/
def f_R_goesOn  (μ : Mem) : Option (Mem) :=
  if (μ 13 0 16) = 0 then (((f_R_reads μ)).bind (fun r1 => some r1)) else (some μ)
set_option maxRecDepth 100000 in
set_option maxHeartbeats 4000000 in
theorem w_R_goesOn {g : GL} {F G : RG} {nx : Nat} (d : Nat)  {μ : Mem}   {o : Mem} (hG : LM vr 535 547 μ F G) (h : f_R_goesOn  μ = some o) : Mt g (d + 2) m_R_goesOn [.inr (0, off 13 0)] (G, nx) 0 0 (pRW vr 535 547 rV o F nx) := by
  unfold f_R_goesOn at h
  have kE : ∀ v, o = v → pRW vr 535 547 rV o F nx = pRW vr 535 547 rV v F nx := fun v e => by rw [e]
  refine Mt.of9 [some (.inr (0, off 13 0))] (by decide +kernel) rfl rfl rfl rfl ?_
  refine ev_aload_n (k0 := 0) rfl d_R_goesOn_0 ?_
  refine cv_get9 (.inl (.int (μ 13 0 16))) hG v_13 fg_ProphecyShopModel_156_13 rfl rfl d_R_goesOn_1 ?_
  refine ev_if_ne (tgt := 11) (by decide) d_R_goesOn_4 (fun c => ?_) (fun c => ?_)
  · rw [if_neg c] at h
    have hP := kE _ (Option.some.inj h).symm
    exact ev_return (st := []) rfl d_R_goesOn_11 (by rw [hP]; exact ⟨rfl, hG, rfl⟩)
  · rw [if_pos c] at h
    refine ev_aload_n (k0 := 0) rfl d_R_goesOn_7 ?_
    obtain ⟨r1, hr1, h⟩ := bind_some9 h
    refine cv_V (d := d + 1) (mc1 := 0) (ms1 := 0) (mc := 0) (ms := 0) [] hG v_13 rfl lk_ProphecyShopModel_162 (w_R_reads (d + 0) hG hr1) rfl rfl d_R_goesOn_8 (aft_rw (fun G hG => ?_))
    refine Ev.at (pc' := 11) rfl (Ev.cong (st' := []) ?_ rfl rfl)
    have hP := kE _ (Option.some.inj h).symm
    exact ev_return (st := []) rfl d_R_goesOn_11 (by rw [hP]; exact ⟨rfl, hG, rfl⟩)

/-- ProphecyShopModel.handledRequests -/
def f_R_handledRequests  (μ : Mem) : Option (Int32 × Mem) :=
  ((f_R_tells 13 μ)).bind (fun r1 => some ((r1.1, r1.2)))
set_option maxRecDepth 100000 in
set_option maxHeartbeats 4000000 in
theorem w_R_handledRequests {g : GL} {F G : RG} {nx : Nat} (d : Nat)  {μ : Mem}   {o : Int32 × Mem} (hG : LM vr 535 547 μ F G) (h : f_R_handledRequests  μ = some o) : Mt g (d + 1) m_R_handledRequests [.inr (0, off 13 0)] (G, nx) 0 0 (pRW vr 535 547 (rI o.1) o.2 F nx) := by
  unfold f_R_handledRequests at h
  have kE : ∀ v, o = v → pRW vr 535 547 (rI o.1) o.2 F nx = pRW vr 535 547 (rI v.1) v.2 F nx := fun v e => by rw [e]
  refine Mt.of9 [some (.inr (0, off 13 0))] (by decide +kernel) rfl rfl rfl rfl ?_
  refine ev_aload_n (k0 := 0) rfl d_R_handledRequests_0 ?_
  refine cw_bipush 13 d_R_handledRequests_1 rfl ?_
  obtain ⟨r1, hr1, h⟩ := bind_some9 h
  refine cv_V (d := d + 0) (mc1 := 0) (ms1 := 0) (mc := 0) (ms := 0) [.inl (.int 13)] hG v_13 rfl lk_ProphecyShopModel_324 (w_R_tells (d + 0) hG hr1) rfl rfl d_R_handledRequests_3 (aft_rw (fun G hG => ?_))
  refine Ev.at (pc' := 6) rfl (Ev.cong (st' := [.inl (.int r1.1)]) ?_ rfl rfl)
  have hP := kE _ (Option.some.inj h).symm
  exact ev_ireturn (st := []) rfl rfl d_R_handledRequests_6 (by rw [hP]; exact ⟨rfl, hG, rfl⟩)

/-- ProphecyShopModel.happen -/
def f_R_happen (x1 : Int32) (x2 : Int32) (μ : Mem) : Option (Int32 × Mem) :=
  nm (st3 μ 13 0 7 0) (fun μ1 => ((f_R_happening x1 x2 μ1)).bind (fun r2 => some ((r2.1, r2.2))))
set_option maxRecDepth 100000 in
set_option maxHeartbeats 4000000 in
theorem w_R_happen {g : GL} {F G : RG} {nx : Nat} (d : Nat) {x1 : Int32} {x2 : Int32} {μ : Mem}   {o : Int32 × Mem} (hG : LM vr 535 547 μ F G) (h : f_R_happen x1 x2 μ = some o) : Mt g (d + 3) m_R_happen [.inr (0, off 13 0), .inl (.int x1), .inl (.int x2)] (G, nx) 0 0 (pRW vr 535 547 (rI o.1) o.2 F nx) := by
  unfold f_R_happen at h
  have kE : ∀ v, o = v → pRW vr 535 547 (rI o.1) o.2 F nx = pRW vr 535 547 (rI v.1) v.2 F nx := fun v e => by rw [e]
  refine Mt.of9 [some (.inr (0, off 13 0)), some (.inl (.int x1)), some (.inl (.int x2))] (by decide +kernel) rfl rfl rfl rfl ?_
  refine ev_aload_n (k0 := 0) rfl d_R_happen_0 ?_
  refine cw_iconst 0 d_R_happen_1 rfl ?_
  obtain ⟨μ1, e_μ1, h⟩ := nm_some h
  refine cv_put (.inl (.int 0)) 0 hG okR v_13 fl_ProphecyShopModel_73_13 rfl rfl okv_int d_R_happen_2 ?_
  intro G hG; rw [← e_μ1] at hG
  refine ev_aload_n (k0 := 0) rfl d_R_happen_5 ?_
  refine ev_iload_n (k0 := 1) rfl d_R_happen_6 ?_
  refine ev_iload_n (k0 := 2) rfl d_R_happen_7 ?_
  obtain ⟨r2, hr2, h⟩ := bind_some9 h
  refine cv_V (d := d + 2) (mc1 := 0) (ms1 := 0) (mc := 0) (ms := 0) [.inl (.int x1), .inl (.int x2)] hG v_13 rfl lk_ProphecyShopModel_298 (w_R_happening (d + 0) hG hr2) rfl rfl d_R_happen_8 (aft_rw (fun G hG => ?_))
  refine Ev.at (pc' := 11) rfl (Ev.cong (st' := [.inl (.int r2.1)]) ?_ rfl rfl)
  have hP := kE _ (Option.some.inj h).symm
  exact ev_ireturn (st := []) rfl rfl d_R_happen_11 (by rw [hP]; exact ⟨rfl, hG, rfl⟩)

/-- ProphecyShopModel.hasHappened -/
def f_R_hasHappened (x1 : Int32) (x2 : Int32) (x3 : Int32) (μ : Mem) : Option (Int32 × Mem) :=
  ((f_R_finds x1 x2 μ)).bind (fun r1 => if r1.1 = 0 then (some ((0, r1.2))) else (if x3 < 0 then (some ((0, r1.2))) else (((f_R_noted x1 x2 x3 r1.2)).bind (fun r2 => if r2 ≤ 0 then (some ((0, r1.2))) else (some ((1, r1.2)))))))
set_option maxRecDepth 100000 in
set_option maxHeartbeats 4000000 in
theorem w_R_hasHappened {g : GL} {F G : RG} {nx : Nat} (d : Nat) {x1 : Int32} {x2 : Int32} {x3 : Int32} {μ : Mem}   {o : Int32 × Mem} (hG : LM vr 535 547 μ F G) (h : f_R_hasHappened x1 x2 x3 μ = some o) : Mt g (d + 3) m_R_hasHappened [.inr (0, off 13 0), .inl (.int x1), .inl (.int x2), .inl (.int x3)] (G, nx) 0 0 (pRW vr 535 547 (rI o.1) o.2 F nx) := by
  unfold f_R_hasHappened at h
  have kE : ∀ v, o = v → pRW vr 535 547 (rI o.1) o.2 F nx = pRW vr 535 547 (rI v.1) v.2 F nx := fun v e => by rw [e]
  refine Mt.of9 [some (.inr (0, off 13 0)), some (.inl (.int x1)), some (.inl (.int x2)), some (.inl (.int x3))] (by decide +kernel) rfl rfl rfl rfl ?_
  refine ev_aload_n (k0 := 0) rfl d_R_hasHappened_0 ?_
  refine ev_iload_n (k0 := 1) rfl d_R_hasHappened_1 ?_
  refine ev_iload_n (k0 := 2) rfl d_R_hasHappened_2 ?_
  obtain ⟨r1, hr1, h⟩ := bind_some9 h
  refine cv_V (d := d + 2) (mc1 := 0) (ms1 := 0) (mc := 0) (ms := 0) [.inl (.int x1), .inl (.int x2)] hG v_13 rfl lk_ProphecyShopModel_336 (w_R_finds (d + 0) hG hr1) rfl rfl d_R_hasHappened_3 (aft_rw (fun G hG => ?_))
  refine Ev.at (pc' := 6) rfl (Ev.cong (st' := [.inl (.int r1.1)]) ?_ rfl rfl)
  refine ev_if_eq (tgt := 27) (by decide) d_R_hasHappened_6 (fun c => ?_) (fun c => ?_)
  · rw [if_pos c] at h
    refine cw_iconst 0 d_R_hasHappened_27 rfl ?_
    have hP := kE _ (Option.some.inj h).symm
    exact ev_ireturn (st := []) rfl rfl d_R_hasHappened_28 (by rw [hP]; exact ⟨rfl, hG, rfl⟩)
  · rw [if_neg c] at h
    refine ev_iload_n (k0 := 3) rfl d_R_hasHappened_9 ?_
    refine ev_if_lt (tgt := 27) (by decide) d_R_hasHappened_10 (fun c => ?_) (fun c => ?_)
    · rw [if_pos c] at h
      refine cw_iconst 0 d_R_hasHappened_27 rfl ?_
      have hP := kE _ (Option.some.inj h).symm
      exact ev_ireturn (st := []) rfl rfl d_R_hasHappened_28 (by rw [hP]; exact ⟨rfl, hG, rfl⟩)
    · rw [if_neg c] at h
      refine ev_aload_n (k0 := 0) rfl d_R_hasHappened_13 ?_
      refine ev_iload_n (k0 := 1) rfl d_R_hasHappened_14 ?_
      refine ev_iload_n (k0 := 2) rfl d_R_hasHappened_15 ?_
      refine ev_iload_n (k0 := 3) rfl d_R_hasHappened_16 ?_
      obtain ⟨r2, hr2, h⟩ := bind_some9 h
      refine cv_V (d := d + 2) (mc1 := 0) (ms1 := 0) (mc := 0) (ms := 0) [.inl (.int x1), .inl (.int x2), .inl (.int x3)] hG v_13 rfl lk_ProphecyShopModel_339 (w_R_noted (d + 1) hG hr2) rfl rfl d_R_hasHappened_17 (aft_ro ?_)
      refine Ev.at (pc' := 20) rfl (Ev.cong (st' := [.inl (.int r2)]) ?_ rfl rfl)
      refine ev_if_le (tgt := 27) (by decide) d_R_hasHappened_20 (fun c => ?_) (fun c => ?_)
      · rw [if_pos c] at h
        refine cw_iconst 0 d_R_hasHappened_27 rfl ?_
        have hP := kE _ (Option.some.inj h).symm
        exact ev_ireturn (st := []) rfl rfl d_R_hasHappened_28 (by rw [hP]; exact ⟨rfl, hG, rfl⟩)
      · rw [if_neg c] at h
        refine cw_iconst 1 d_R_hasHappened_23 rfl ?_
        refine ev_goto (tgt := 28) (by decide) d_R_hasHappened_24 ?_
        have hP := kE _ (Option.some.inj h).symm
        exact ev_ireturn (st := []) rfl rfl d_R_hasHappened_28 (by rw [hP]; exact ⟨rfl, hG, rfl⟩)

/-- ProphecyShopModel.idleOwls -/
def s_R_idleOwls_9  (x1 : Int32) (x2 : Int32) (μ : Mem) : Option ((Int32 × Int32) ⊕ (Int32)) :=
  chk (inb 9 524) (if (μ 40 0 (9 : Int32).toNatClampNeg) ≤ x2 then (some (.inr x1)) else (((f_R_ofOwl x2 1 μ)).bind (fun r2 => if r2 = 0 then (some (.inl ((x1 + 1, x2 + 1)))) else (some (.inl ((x1, x2 + 1)))))))
def f_R_idleOwls  (μ : Mem) : Option (Int32 × Mem) :=
  nm (st3 μ 13 0 7 0) (fun μ1 => (it (fun (s : Int32 × Int32) => s_R_idleOwls_9 s.1 s.2 μ1) LIM ((0, 0))).bind (fun q2 => some ((q2, μ1))))
set_option maxRecDepth 100000 in
set_option maxHeartbeats 4000000 in
theorem ws_R_idleOwls_9 {g : GL} {F G : RG} {nx mc ms : Nat} {Post : RO → RM → Prop} (d : Nat)  {x1 : Int32} {x2 : Int32} {μ : Mem}   {o : (Int32 × Int32) ⊕ (Int32)} (hG : LM vr 535 547 μ F G) (h : s_R_idleOwls_9  x1 x2 μ = some o)
    (kC : ∀ s', o = .inl s' → Ev g (d + 1) m_R_idleOwls 9 [some (.inr (0, off 13 0)), some (.inl (.int s'.1)), some (.inl (.int s'.2))] [] (G, nx) mc ms Post)
    (kX : ∀ r, o = .inr r → Ev g (d + 1) m_R_idleOwls 38 [none, some (.inl (.int r)), none] [] (G, nx) mc ms Post)
    : Ev g (d + 1) m_R_idleOwls 9 [some (.inr (0, off 13 0)), some (.inl (.int x1)), some (.inl (.int x2))] [] (G, nx) mc ms Post := by
  unfold s_R_idleOwls_9 at h
  refine ev_iload_n (k0 := 2) rfl d_R_idleOwls_9 ?_
  refine ev_aload_n (k0 := 0) rfl d_R_idleOwls_10 ?_
  refine cv_get9 (.inr (0, off 40 0)) hG v_13 fg_ProphecyShopModel_7_13 rfl rfl d_R_idleOwls_11 ?_
  refine cw_bipush 9 d_R_idleOwls_14 rfl ?_
  obtain ⟨b1, h⟩ := chk_some h
  refine cv_iald hG v_40 rfl rfl b1 rfl d_R_idleOwls_16 ?_
  refine ev_icmp_ge (tgt := 38) (by decide) d_R_idleOwls_17 (fun c => ?_) (fun c => ?_)
  · rw [if_pos c] at h
    exact Ev.sub (.n (.s (.n LSb.z))) (kX _ (Option.some.inj h).symm)
  · rw [if_neg c] at h
    refine ev_aload_n (k0 := 0) rfl d_R_idleOwls_20 ?_
    refine ev_iload_n (k0 := 2) rfl d_R_idleOwls_21 ?_
    refine cw_iconst 1 d_R_idleOwls_22 rfl ?_
    obtain ⟨r2, hr2, h⟩ := bind_some9 h
    refine Ev.z9 ?_
    refine cv_V (d := d + 0) (mc1 := 0) (ms1 := 0) (mc := mc) (ms := ms) [.inl (.int x2), .inl (.int 1)] hG v_13 rfl lk_ProphecyShopModel_95 (w_R_ofOwl (d + 0) hG hr2) rfl rfl d_R_idleOwls_23 (aft_ro ?_)
    refine Ev.at (pc' := 26) rfl (Ev.cong (st' := [.inl (.int r2)]) ?_ rfl rfl)
    refine ev_if_ne (tgt := 32) (by decide) d_R_idleOwls_26 (fun c => ?_) (fun c => ?_)
    · rw [if_neg c] at h
      refine cw_iincN 2 1 [some (.inr (0, off 13 0)), some (.inl (.int x1)), some (.inl (.int (x2 + 1)))] d_R_idleOwls_32 rfl rfl rfl rfl rfl ?_
      refine ev_goto (tgt := 9) (by decide) d_R_idleOwls_35 ?_
      exact kC _ (Option.some.inj h).symm
    · rw [if_pos c] at h
      refine cw_iincN 1 1 [some (.inr (0, off 13 0)), some (.inl (.int (x1 + 1))), some (.inl (.int x2))] d_R_idleOwls_29 rfl rfl rfl rfl rfl ?_
      refine cw_iincN 2 1 [some (.inr (0, off 13 0)), some (.inl (.int (x1 + 1))), some (.inl (.int (x2 + 1)))] d_R_idleOwls_32 rfl rfl rfl rfl rfl ?_
      refine ev_goto (tgt := 9) (by decide) d_R_idleOwls_35 ?_
      exact kC _ (Option.some.inj h).symm
set_option maxRecDepth 100000 in
set_option maxHeartbeats 4000000 in
theorem w_R_idleOwls {g : GL} {F G : RG} {nx : Nat} (d : Nat)  {μ : Mem}   {o : Int32 × Mem} (hG : LM vr 535 547 μ F G) (h : f_R_idleOwls  μ = some o) : Mt g (d + 1) m_R_idleOwls [.inr (0, off 13 0)] (G, nx) 0 0 (pRW vr 535 547 (rI o.1) o.2 F nx) := by
  unfold f_R_idleOwls at h
  have kE : ∀ v, o = v → pRW vr 535 547 (rI o.1) o.2 F nx = pRW vr 535 547 (rI v.1) v.2 F nx := fun v e => by rw [e]
  refine Mt.of9 [some (.inr (0, off 13 0)), none, none] (by decide +kernel) rfl rfl rfl rfl ?_
  refine ev_aload_n (k0 := 0) rfl d_R_idleOwls_0 ?_
  refine cw_iconst 0 d_R_idleOwls_1 rfl ?_
  obtain ⟨μ1, e_μ1, h⟩ := nm_some h
  refine cv_put (.inl (.int 0)) 0 hG okR v_13 fl_ProphecyShopModel_73_13 rfl rfl okv_int d_R_idleOwls_2 ?_
  intro G hG; rw [← e_μ1] at hG
  refine cw_iconst 0 d_R_idleOwls_5 rfl ?_
  refine cw_istoreN_n 1 0 rfl [some (.inr (0, off 13 0)), some (.inl (.int 0)), none] d_R_idleOwls_6 rfl rfl rfl ?_
  refine cw_iconst 0 d_R_idleOwls_7 rfl ?_
  refine cw_istoreN_n 2 0 rfl [some (.inr (0, off 13 0)), some (.inl (.int 0)), some (.inl (.int 0))] d_R_idleOwls_8 rfl rfl rfl ?_
  obtain ⟨q2, hl, h⟩ := bind_some9 h
  refine it_ev (W := fun (s : Int32 × Int32) => Ev g (d + 1) m_R_idleOwls 9 [some (.inr (0, off 13 0)), some (.inl (.int s.1)), some (.inl (.int s.2))] [] (G, nx) 0 0 (pRW vr 535 547 (rI o.1) o.2 F nx)) (X := fun z => z = q2) rfl (fun s9 o9 hs kC9 kX9 => ?_) LIM _ hl
  refine ws_R_idleOwls_9 d  hG hs kC9 (fun r_ e => ?_)
  · obtain rfl := (kX9 _ e).symm
    refine ev_iload_n (k0 := 1) rfl d_R_idleOwls_38 ?_
    have hP := kE _ (Option.some.inj h).symm
    exact ev_ireturn (st := []) rfl rfl d_R_idleOwls_39 (by rw [hP]; exact ⟨rfl, hG, rfl⟩)

/-- ProphecyShopModel.isDenial -/
def f_R_isDenial (x1 : Int32) (μ : Mem) : Option (Int32 × Mem) :=
  ((f_R_asked x1 3 μ)).bind (fun r1 => if r1.1 = 1 then (some ((1, r1.2))) else (some ((0, r1.2))))
set_option maxRecDepth 100000 in
set_option maxHeartbeats 4000000 in
theorem w_R_isDenial {g : GL} {F G : RG} {nx : Nat} (d : Nat) {x1 : Int32} {μ : Mem}   {o : Int32 × Mem} (hG : LM vr 535 547 μ F G) (h : f_R_isDenial x1 μ = some o) : Mt g (d + 3) m_R_isDenial [.inr (0, off 13 0), .inl (.int x1)] (G, nx) 0 0 (pRW vr 535 547 (rI o.1) o.2 F nx) := by
  unfold f_R_isDenial at h
  have kE : ∀ v, o = v → pRW vr 535 547 (rI o.1) o.2 F nx = pRW vr 535 547 (rI v.1) v.2 F nx := fun v e => by rw [e]
  refine Mt.of9 [some (.inr (0, off 13 0)), some (.inl (.int x1))] (by decide +kernel) rfl rfl rfl rfl ?_
  refine ev_aload_n (k0 := 0) rfl d_R_isDenial_0 ?_
  refine ev_iload_n (k0 := 1) rfl d_R_isDenial_1 ?_
  refine cw_iconst 3 d_R_isDenial_2 rfl ?_
  obtain ⟨r1, hr1, h⟩ := bind_some9 h
  refine cv_V (d := d + 2) (mc1 := 0) (ms1 := 0) (mc := 0) (ms := 0) [.inl (.int x1), .inl (.int 3)] hG v_13 rfl lk_ProphecyShopModel_349 (w_R_asked (d + 0) hG hr1) rfl rfl d_R_isDenial_3 (aft_rw (fun G hG => ?_))
  refine Ev.at (pc' := 6) rfl (Ev.cong (st' := [.inl (.int r1.1)]) ?_ rfl rfl)
  refine cw_iconst 1 d_R_isDenial_6 rfl ?_
  refine ev_icmp_ne (tgt := 14) (by decide) d_R_isDenial_7 (fun c => ?_) (fun c => ?_)
  · rw [if_neg c] at h
    refine cw_iconst 0 d_R_isDenial_14 rfl ?_
    have hP := kE _ (Option.some.inj h).symm
    exact ev_ireturn (st := []) rfl rfl d_R_isDenial_15 (by rw [hP]; exact ⟨rfl, hG, rfl⟩)
  · rw [if_pos c] at h
    refine cw_iconst 1 d_R_isDenial_10 rfl ?_
    refine ev_goto (tgt := 15) (by decide) d_R_isDenial_11 ?_
    have hP := kE _ (Option.some.inj h).symm
    exact ev_ireturn (st := []) rfl rfl d_R_isDenial_15 (by rw [hP]; exact ⟨rfl, hG, rfl⟩)

/-- ProphecyShopModel.isSign -/
def f_R_isSign (x1 : Int32) (μ : Mem) : Option (Int32) :=
  if (μ 13 0 16) = 0 then (if (μ 13 0 14) = 3 then (((f_R_seen (μ 13 0 13) μ)).bind (fun r1 => if r1 = x1 then some 1 else (some 0))) else (some 0)) else (some 0)
set_option maxRecDepth 100000 in
set_option maxHeartbeats 4000000 in
theorem w_R_isSign {g : GL} {F G : RG} {nx : Nat} (d : Nat) {x1 : Int32} {μ : Mem}   {o : Int32} (hG : LM vr 535 547 μ F G) (h : f_R_isSign x1 μ = some o) : Mt g (d + 1) m_R_isSign [.inr (0, off 13 0), .inl (.int x1)] (G, nx) 0 0 (pRO (rI o) (G, nx)) := by
  unfold f_R_isSign at h
  have kE : ∀ v, o = v → pRO (rI o) (G, nx) = pRO (rI v) (G, nx) := fun v e => by rw [e]
  refine Mt.of9 [some (.inr (0, off 13 0)), some (.inl (.int x1))] (by decide +kernel) rfl rfl rfl rfl ?_
  refine ev_aload_n (k0 := 0) rfl d_R_isSign_0 ?_
  refine cv_get9 (.inl (.int (μ 13 0 16))) hG v_13 fg_ProphecyShopModel_156_13 rfl rfl d_R_isSign_1 ?_
  refine ev_if_ne (tgt := 31) (by decide) d_R_isSign_4 (fun c => ?_) (fun c => ?_)
  · rw [if_neg c] at h
    refine cw_iconst 0 d_R_isSign_31 rfl ?_
    have hP := kE _ (Option.some.inj h).symm
    exact ev_ireturn (st := []) rfl rfl d_R_isSign_32 (by rw [hP]; exact ⟨rfl, rfl⟩)
  · rw [if_pos c] at h
    refine ev_aload_n (k0 := 0) rfl d_R_isSign_7 ?_
    refine cv_get9 (.inl (.int (μ 13 0 14))) hG v_13 fg_ProphecyShopModel_144_13 rfl rfl d_R_isSign_8 ?_
    refine cw_iconst 3 d_R_isSign_11 rfl ?_
    refine ev_icmp_ne (tgt := 31) (by decide) d_R_isSign_12 (fun c => ?_) (fun c => ?_)
    · rw [if_neg c] at h
      refine cw_iconst 0 d_R_isSign_31 rfl ?_
      have hP := kE _ (Option.some.inj h).symm
      exact ev_ireturn (st := []) rfl rfl d_R_isSign_32 (by rw [hP]; exact ⟨rfl, rfl⟩)
    · rw [if_pos c] at h
      refine ev_aload_n (k0 := 0) rfl d_R_isSign_15 ?_
      refine ev_aload_n (k0 := 0) rfl d_R_isSign_16 ?_
      refine cv_get9 (.inl (.int (μ 13 0 13))) hG v_13 fg_ProphecyShopModel_141_13 rfl rfl d_R_isSign_17 ?_
      obtain ⟨r1, hr1, h⟩ := bind_some9 h
      refine cv_V (d := d + 0) (mc1 := 0) (ms1 := 0) (mc := 0) (ms := 0) [.inl (.int (μ 13 0 13))] hG v_13 rfl lk_ProphecyShopModel_138 (w_R_seen (d + 0) hG hr1) rfl rfl d_R_isSign_20 (aft_ro ?_)
      refine Ev.at (pc' := 23) rfl (Ev.cong (st' := [.inl (.int r1)]) ?_ rfl rfl)
      refine ev_iload_n (k0 := 1) rfl d_R_isSign_23 ?_
      refine ev_icmp_ne (tgt := 31) (by decide) d_R_isSign_24 (fun c => ?_) (fun c => ?_)
      · rw [if_neg c] at h
        refine cw_iconst 0 d_R_isSign_31 rfl ?_
        have hP := kE _ (Option.some.inj h).symm
        exact ev_ireturn (st := []) rfl rfl d_R_isSign_32 (by rw [hP]; exact ⟨rfl, rfl⟩)
      · rw [if_pos c] at h
        refine cw_iconst 1 d_R_isSign_27 rfl ?_
        refine ev_goto (tgt := 32) (by decide) d_R_isSign_28 ?_
        have hP := kE _ (Option.some.inj h).symm
        exact ev_ireturn (st := []) rfl rfl d_R_isSign_32 (by rw [hP]; exact ⟨rfl, rfl⟩)

/-- ProphecyShopModel.isWhole -/
def f_R_isWhole  (μ : Mem) : Option (Int32 × Mem) :=
  nm (st3 μ 13 0 9 0) (fun μ1 => nm (st3 μ1 13 0 10 (μ1 13 0 16)) (fun μ2 => nm (st3 μ2 13 0 11 (μ2 13 0 17)) (fun μ3 => if (μ3 13 0 16) = 0 then (some ((1, μ3))) else (some ((0, μ3))))))
set_option maxRecDepth 100000 in
set_option maxHeartbeats 4000000 in
theorem w_R_isWhole {g : GL} {F G : RG} {nx : Nat} (d : Nat)  {μ : Mem}   {o : Int32 × Mem} (hG : LM vr 535 547 μ F G) (h : f_R_isWhole  μ = some o) : Mt g (d + 0) m_R_isWhole [.inr (0, off 13 0)] (G, nx) 0 0 (pRW vr 535 547 (rI o.1) o.2 F nx) := by
  unfold f_R_isWhole at h
  have kE : ∀ v, o = v → pRW vr 535 547 (rI o.1) o.2 F nx = pRW vr 535 547 (rI v.1) v.2 F nx := fun v e => by rw [e]
  refine Mt.of9 [some (.inr (0, off 13 0))] (by decide +kernel) rfl rfl rfl rfl ?_
  refine ev_aload_n (k0 := 0) rfl d_R_isWhole_0 ?_
  refine cw_iconst 0 d_R_isWhole_1 rfl ?_
  obtain ⟨μ1, e_μ1, h⟩ := nm_some h
  refine cv_put (.inl (.int 0)) 0 hG okR v_13 fl_ProphecyShopModel_64_13 rfl rfl okv_int d_R_isWhole_2 ?_
  intro G hG; rw [← e_μ1] at hG
  refine ev_aload_n (k0 := 0) rfl d_R_isWhole_5 ?_
  refine ev_aload_n (k0 := 0) rfl d_R_isWhole_6 ?_
  refine cv_get9 (.inl (.int (μ1 13 0 16))) hG v_13 fg_ProphecyShopModel_156_13 rfl rfl d_R_isWhole_7 ?_
  obtain ⟨μ2, e_μ2, h⟩ := nm_some h
  refine cv_put (.inl (.int (μ1 13 0 16))) (μ1 13 0 16) hG okR v_13 fl_ProphecyShopModel_132_13 rfl rfl okv_int d_R_isWhole_10 ?_
  intro G hG; rw [← e_μ2] at hG
  refine ev_aload_n (k0 := 0) rfl d_R_isWhole_13 ?_
  refine ev_aload_n (k0 := 0) rfl d_R_isWhole_14 ?_
  refine cv_get9 (.inl (.int (μ2 13 0 17))) hG v_13 fg_ProphecyShopModel_159_13 rfl rfl d_R_isWhole_15 ?_
  obtain ⟨μ3, e_μ3, h⟩ := nm_some h
  refine cv_put (.inl (.int (μ2 13 0 17))) (μ2 13 0 17) hG okR v_13 fl_ProphecyShopModel_32_13 rfl rfl okv_int d_R_isWhole_18 ?_
  intro G hG; rw [← e_μ3] at hG
  refine Ev.at (pc' := 21) rfl ?_
  refine ev_aload_n (k0 := 0) rfl d_R_isWhole_21 ?_
  refine cv_get9 (.inl (.int (μ3 13 0 16))) hG v_13 fg_ProphecyShopModel_156_13 rfl rfl d_R_isWhole_22 ?_
  refine ev_if_ne (tgt := 32) (by decide) d_R_isWhole_25 (fun c => ?_) (fun c => ?_)
  · rw [if_neg c] at h
    refine cw_iconst 0 d_R_isWhole_32 rfl ?_
    have hP := kE _ (Option.some.inj h).symm
    exact ev_ireturn (st := []) rfl rfl d_R_isWhole_33 (by rw [hP]; exact ⟨rfl, hG, rfl⟩)
  · rw [if_pos c] at h
    refine cw_iconst 1 d_R_isWhole_28 rfl ?_
    refine ev_goto (tgt := 33) (by decide) d_R_isWhole_29 ?_
    have hP := kE _ (Option.some.inj h).symm
    exact ev_ireturn (st := []) rfl rfl d_R_isWhole_33 (by rw [hP]; exact ⟨rfl, hG, rfl⟩)

/-- ProphecyShopModel.lastDay -/
def f_R_lastDay (x1 : Int32) (μ : Mem) : Option (Int32 × Mem) :=
  ((f_R_asked x1 5 μ)).bind (fun r1 => some ((r1.1, r1.2)))
set_option maxRecDepth 100000 in
set_option maxHeartbeats 4000000 in
theorem w_R_lastDay {g : GL} {F G : RG} {nx : Nat} (d : Nat) {x1 : Int32} {μ : Mem}   {o : Int32 × Mem} (hG : LM vr 535 547 μ F G) (h : f_R_lastDay x1 μ = some o) : Mt g (d + 3) m_R_lastDay [.inr (0, off 13 0), .inl (.int x1)] (G, nx) 0 0 (pRW vr 535 547 (rI o.1) o.2 F nx) := by
  unfold f_R_lastDay at h
  have kE : ∀ v, o = v → pRW vr 535 547 (rI o.1) o.2 F nx = pRW vr 535 547 (rI v.1) v.2 F nx := fun v e => by rw [e]
  refine Mt.of9 [some (.inr (0, off 13 0)), some (.inl (.int x1))] (by decide +kernel) rfl rfl rfl rfl ?_
  refine ev_aload_n (k0 := 0) rfl d_R_lastDay_0 ?_
  refine ev_iload_n (k0 := 1) rfl d_R_lastDay_1 ?_
  refine cw_iconst 5 d_R_lastDay_2 rfl ?_
  obtain ⟨r1, hr1, h⟩ := bind_some9 h
  refine cv_V (d := d + 2) (mc1 := 0) (ms1 := 0) (mc := 0) (ms := 0) [.inl (.int x1), .inl (.int 5)] hG v_13 rfl lk_ProphecyShopModel_349 (w_R_asked (d + 0) hG hr1) rfl rfl d_R_lastDay_3 (aft_rw (fun G hG => ?_))
  refine Ev.at (pc' := 6) rfl (Ev.cong (st' := [.inl (.int r1.1)]) ?_ rfl rfl)
  have hP := kE _ (Option.some.inj h).symm
  exact ev_ireturn (st := []) rfl rfl d_R_lastDay_6 (by rw [hP]; exact ⟨rfl, hG, rfl⟩)

/-- ProphecyShopModel.lays -/
def f_R_lays (x1 : Int32) (x2 : Int32) (x3 : Int32) (μ : Mem) : Option (Mem) :=
  chk (inb ((7 * x1) + x2) 210) (nm (st3 μ 48 0 ((7 * x1) + x2).toNatClampNeg x3) (fun μ2 => some μ2))
set_option maxRecDepth 100000 in
set_option maxHeartbeats 4000000 in
theorem w_R_lays {g : GL} {F G : RG} {nx : Nat} (d : Nat) {x1 : Int32} {x2 : Int32} {x3 : Int32} {μ : Mem}   {o : Mem} (hG : LM vr 535 547 μ F G) (h : f_R_lays x1 x2 x3 μ = some o) : Mt g (d + 0) m_R_lays [.inr (0, off 13 0), .inl (.int x1), .inl (.int x2), .inl (.int x3)] (G, nx) 0 0 (pRW vr 535 547 rV o F nx) := by
  unfold f_R_lays at h
  have kE : ∀ v, o = v → pRW vr 535 547 rV o F nx = pRW vr 535 547 rV v F nx := fun v e => by rw [e]
  refine Mt.of9 [some (.inr (0, off 13 0)), some (.inl (.int x1)), some (.inl (.int x2)), some (.inl (.int x3))] (by decide +kernel) rfl rfl rfl rfl ?_
  refine ev_aload_n (k0 := 0) rfl d_R_lays_0 ?_
  refine cv_get9 (.inr (0, off 48 0)) hG v_13 fg_ProphecyShopModel_39_13 rfl rfl d_R_lays_1 ?_
  refine cw_bipush 7 d_R_lays_4 rfl ?_
  refine ev_iload_n (k0 := 1) rfl d_R_lays_6 ?_
  refine ev_imul d_R_lays_7 ?_
  refine ev_iload_n (k0 := 2) rfl d_R_lays_8 ?_
  refine ev_iadd d_R_lays_9 ?_
  refine ev_iload_n (k0 := 3) rfl d_R_lays_10 ?_
  obtain ⟨b1, h⟩ := chk_some h
  obtain ⟨μ2, e_μ2, h⟩ := nm_some h
  refine cv_iast hG okR v_48 rfl rfl b1 rfl d_R_lays_11 ?_
  intro G hG; rw [← e_μ2] at hG
  have hP := kE _ (Option.some.inj h).symm
  exact ev_return (st := []) rfl d_R_lays_12 (by rw [hP]; exact ⟨rfl, hG, rfl⟩)

/-- ProphecyShopModel.liveliestPlace -/
def s_R_liveliestPlace_9  (x1 : Int32) (x2 : Int32) (μ : Mem) : Option ((Int32 × Int32) ⊕ (Int32)) :=
  chk (inb 7 524) (if (μ 40 0 (7 : Int32).toNatClampNeg) ≤ x2 then (some (.inr x1)) else (((f_R_allAt x2 μ)).bind (fun r2 => ((f_R_allAt x1 μ)).bind (fun r3 => if r2 ≤ r3 then (some (.inl ((x1, x2 + 1)))) else (some (.inl ((x2, x2 + 1))))))))
def f_R_liveliestPlace  (μ : Mem) : Option (Int32 × Mem) :=
  nm (st3 μ 13 0 7 0) (fun μ1 => (it (fun (s : Int32 × Int32) => s_R_liveliestPlace_9 s.1 s.2 μ1) LIM ((0, 1))).bind (fun q2 => some ((q2, μ1))))
set_option maxRecDepth 100000 in
set_option maxHeartbeats 4000000 in
theorem ws_R_liveliestPlace_9 {g : GL} {F G : RG} {nx mc ms : Nat} {Post : RO → RM → Prop} (d : Nat)  {x1 : Int32} {x2 : Int32} {μ : Mem}   {o : (Int32 × Int32) ⊕ (Int32)} (hG : LM vr 535 547 μ F G) (h : s_R_liveliestPlace_9  x1 x2 μ = some o)
    (kC : ∀ s', o = .inl s' → Ev g (d + 3) m_R_liveliestPlace 9 [some (.inr (0, off 13 0)), some (.inl (.int s'.1)), some (.inl (.int s'.2))] [] (G, nx) mc ms Post)
    (kX : ∀ r, o = .inr r → Ev g (d + 3) m_R_liveliestPlace 41 [none, some (.inl (.int r)), none] [] (G, nx) mc ms Post)
    : Ev g (d + 3) m_R_liveliestPlace 9 [some (.inr (0, off 13 0)), some (.inl (.int x1)), some (.inl (.int x2))] [] (G, nx) mc ms Post := by
  unfold s_R_liveliestPlace_9 at h
  refine ev_iload_n (k0 := 2) rfl d_R_liveliestPlace_9 ?_
  refine ev_aload_n (k0 := 0) rfl d_R_liveliestPlace_10 ?_
  refine cv_get9 (.inr (0, off 40 0)) hG v_13 fg_ProphecyShopModel_7_13 rfl rfl d_R_liveliestPlace_11 ?_
  refine cw_bipush 7 d_R_liveliestPlace_14 rfl ?_
  obtain ⟨b1, h⟩ := chk_some h
  refine cv_iald hG v_40 rfl rfl b1 rfl d_R_liveliestPlace_16 ?_
  refine ev_icmp_ge (tgt := 41) (by decide) d_R_liveliestPlace_17 (fun c => ?_) (fun c => ?_)
  · rw [if_pos c] at h
    exact Ev.sub (.n (.s (.n LSb.z))) (kX _ (Option.some.inj h).symm)
  · rw [if_neg c] at h
    refine ev_aload_n (k0 := 0) rfl d_R_liveliestPlace_20 ?_
    refine ev_iload_n (k0 := 2) rfl d_R_liveliestPlace_21 ?_
    obtain ⟨r2, hr2, h⟩ := bind_some9 h
    refine Ev.z9 ?_
    refine cv_V (d := d + 2) (mc1 := 0) (ms1 := 0) (mc := mc) (ms := ms) [.inl (.int x2)] hG v_13 rfl lk_ProphecyShopModel_343 (w_R_allAt (d + 0) hG hr2) rfl rfl d_R_liveliestPlace_22 (aft_ro ?_)
    refine Ev.at (pc' := 25) rfl (Ev.cong (st' := [.inl (.int r2)]) ?_ rfl rfl)
    refine ev_aload_n (k0 := 0) rfl d_R_liveliestPlace_25 ?_
    refine ev_iload_n (k0 := 1) rfl d_R_liveliestPlace_26 ?_
    obtain ⟨r3, hr3, h⟩ := bind_some9 h
    refine Ev.z9 ?_
    refine cv_V (d := d + 2) (mc1 := 0) (ms1 := 0) (mc := mc) (ms := ms) [.inl (.int x1)] hG v_13 rfl lk_ProphecyShopModel_343 (w_R_allAt (d + 0) hG hr3) rfl rfl d_R_liveliestPlace_27 (aft_ro ?_)
    refine Ev.at (pc' := 30) rfl (Ev.cong (st' := [.inl (.int r3), .inl (.int r2)]) ?_ rfl rfl)
    refine ev_icmp_le (tgt := 35) (by decide) d_R_liveliestPlace_30 (fun c => ?_) (fun c => ?_)
    · rw [if_pos c] at h
      refine cw_iincN 2 1 [some (.inr (0, off 13 0)), some (.inl (.int x1)), some (.inl (.int (x2 + 1)))] d_R_liveliestPlace_35 rfl rfl rfl rfl rfl ?_
      refine ev_goto (tgt := 9) (by decide) d_R_liveliestPlace_38 ?_
      exact kC _ (Option.some.inj h).symm
    · rw [if_neg c] at h
      refine ev_iload_n (k0 := 2) rfl d_R_liveliestPlace_33 ?_
      refine cw_istoreN_n 1 x2 rfl [some (.inr (0, off 13 0)), some (.inl (.int x2)), some (.inl (.int x2))] d_R_liveliestPlace_34 rfl rfl rfl ?_
      refine cw_iincN 2 1 [some (.inr (0, off 13 0)), some (.inl (.int x2)), some (.inl (.int (x2 + 1)))] d_R_liveliestPlace_35 rfl rfl rfl rfl rfl ?_
      refine ev_goto (tgt := 9) (by decide) d_R_liveliestPlace_38 ?_
      exact kC _ (Option.some.inj h).symm
set_option maxRecDepth 100000 in
set_option maxHeartbeats 4000000 in
theorem w_R_liveliestPlace {g : GL} {F G : RG} {nx : Nat} (d : Nat)  {μ : Mem}   {o : Int32 × Mem} (hG : LM vr 535 547 μ F G) (h : f_R_liveliestPlace  μ = some o) : Mt g (d + 3) m_R_liveliestPlace [.inr (0, off 13 0)] (G, nx) 0 0 (pRW vr 535 547 (rI o.1) o.2 F nx) := by
  unfold f_R_liveliestPlace at h
  have kE : ∀ v, o = v → pRW vr 535 547 (rI o.1) o.2 F nx = pRW vr 535 547 (rI v.1) v.2 F nx := fun v e => by rw [e]
  refine Mt.of9 [some (.inr (0, off 13 0)), none, none] (by decide +kernel) rfl rfl rfl rfl ?_
  refine ev_aload_n (k0 := 0) rfl d_R_liveliestPlace_0 ?_
  refine cw_iconst 0 d_R_liveliestPlace_1 rfl ?_
  obtain ⟨μ1, e_μ1, h⟩ := nm_some h
  refine cv_put (.inl (.int 0)) 0 hG okR v_13 fl_ProphecyShopModel_73_13 rfl rfl okv_int d_R_liveliestPlace_2 ?_
  intro G hG; rw [← e_μ1] at hG
  refine cw_iconst 0 d_R_liveliestPlace_5 rfl ?_
  refine cw_istoreN_n 1 0 rfl [some (.inr (0, off 13 0)), some (.inl (.int 0)), none] d_R_liveliestPlace_6 rfl rfl rfl ?_
  refine cw_iconst 1 d_R_liveliestPlace_7 rfl ?_
  refine cw_istoreN_n 2 1 rfl [some (.inr (0, off 13 0)), some (.inl (.int 0)), some (.inl (.int 1))] d_R_liveliestPlace_8 rfl rfl rfl ?_
  obtain ⟨q2, hl, h⟩ := bind_some9 h
  refine it_ev (W := fun (s : Int32 × Int32) => Ev g (d + 3) m_R_liveliestPlace 9 [some (.inr (0, off 13 0)), some (.inl (.int s.1)), some (.inl (.int s.2))] [] (G, nx) 0 0 (pRW vr 535 547 (rI o.1) o.2 F nx)) (X := fun z => z = q2) rfl (fun s9 o9 hs kC9 kX9 => ?_) LIM _ hl
  refine ws_R_liveliestPlace_9 d  hG hs kC9 (fun r_ e => ?_)
  · obtain rfl := (kX9 _ e).symm
    refine ev_iload_n (k0 := 1) rfl d_R_liveliestPlace_41 ?_
    have hP := kE _ (Option.some.inj h).symm
    exact ev_ireturn (st := []) rfl rfl d_R_liveliestPlace_42 (by rw [hP]; exact ⟨rfl, hG, rfl⟩)

/-- ProphecyShopModel.starts -/
def f_R_starts  (μ : Mem) : Option (Mem) :=
  nm (st3 μ 13 0 12 0) (fun μ1 => nm (st3 μ1 13 0 16 0) (fun μ2 => nm (st3 μ2 13 0 17 ((-1))) (fun μ3 => ((f_R_reads μ3)).bind (fun r4 => some r4))))
set_option maxRecDepth 100000 in
set_option maxHeartbeats 4000000 in
theorem w_R_starts {g : GL} {F G : RG} {nx : Nat} (d : Nat)  {μ : Mem}   {o : Mem} (hG : LM vr 535 547 μ F G) (h : f_R_starts  μ = some o) : Mt g (d + 2) m_R_starts [.inr (0, off 13 0)] (G, nx) 0 0 (pRW vr 535 547 rV o F nx) := by
  unfold f_R_starts at h
  have kE : ∀ v, o = v → pRW vr 535 547 rV o F nx = pRW vr 535 547 rV v F nx := fun v e => by rw [e]
  refine Mt.of9 [some (.inr (0, off 13 0))] (by decide +kernel) rfl rfl rfl rfl ?_
  refine ev_aload_n (k0 := 0) rfl d_R_starts_0 ?_
  refine cw_iconst 0 d_R_starts_1 rfl ?_
  obtain ⟨μ1, e_μ1, h⟩ := nm_some h
  refine cv_put (.inl (.int 0)) 0 hG okR v_13 fl_ProphecyShopModel_135_13 rfl rfl okv_int d_R_starts_2 ?_
  intro G hG; rw [← e_μ1] at hG
  refine ev_aload_n (k0 := 0) rfl d_R_starts_5 ?_
  refine cw_iconst 0 d_R_starts_6 rfl ?_
  obtain ⟨μ2, e_μ2, h⟩ := nm_some h
  refine cv_put (.inl (.int 0)) 0 hG okR v_13 fl_ProphecyShopModel_156_13 rfl rfl okv_int d_R_starts_7 ?_
  intro G hG; rw [← e_μ2] at hG
  refine ev_aload_n (k0 := 0) rfl d_R_starts_10 ?_
  refine cw_iconst (-1) d_R_starts_11 rfl ?_
  obtain ⟨μ3, e_μ3, h⟩ := nm_some h
  refine cv_put (.inl (.int ((-1)))) ((-1)) hG okR v_13 fl_ProphecyShopModel_159_13 rfl rfl okv_int d_R_starts_12 ?_
  intro G hG; rw [← e_μ3] at hG
  refine ev_aload_n (k0 := 0) rfl d_R_starts_15 ?_
  obtain ⟨r4, hr4, h⟩ := bind_some9 h
  refine cv_V (d := d + 1) (mc1 := 0) (ms1 := 0) (mc := 0) (ms := 0) [] hG v_13 rfl lk_ProphecyShopModel_162 (w_R_reads (d + 0) hG hr4) rfl rfl d_R_starts_16 (aft_rw (fun G hG => ?_))
  refine Ev.at (pc' := 19) rfl (Ev.cong (st' := []) ?_ rfl rfl)
  have hP := kE _ (Option.some.inj h).symm
  exact ev_return (st := []) rfl d_R_starts_19 (by rw [hP]; exact ⟨rfl, hG, rfl⟩)

/-- ProphecyShopModel.must -/
def f_R_must (x1 : Int32) (x2 : Int32) (μ : Mem) : Option (Int32 × Mem) :=
  ((if (μ 13 0 16) = 0 then (if x1 = 0 then (nm (st3 μ 13 0 16 x2) (fun μ2 => nm (st3 μ2 13 0 17 (μ2 13 0 13)) (fun μ3 => some (μ3)))) else (some (μ))) else (some (μ)) : Option (Mem))).bind (fun q1 => if (q1 13 0 16) = 0 then (some ((1, q1))) else (some ((0, q1))))
set_option maxRecDepth 100000 in
set_option maxHeartbeats 4000000 in
theorem w_R_must {g : GL} {F G : RG} {nx : Nat} (d : Nat) {x1 : Int32} {x2 : Int32} {μ : Mem}   {o : Int32 × Mem} (hG : LM vr 535 547 μ F G) (h : f_R_must x1 x2 μ = some o) : Mt g (d + 0) m_R_must [.inr (0, off 13 0), .inl (.int x1), .inl (.int x2)] (G, nx) 0 0 (pRW vr 535 547 (rI o.1) o.2 F nx) := by
  unfold f_R_must at h
  have kE : ∀ v, o = v → pRW vr 535 547 (rI o.1) o.2 F nx = pRW vr 535 547 (rI v.1) v.2 F nx := fun v e => by rw [e]
  refine Mt.of9 [some (.inr (0, off 13 0)), some (.inl (.int x1)), some (.inl (.int x2))] (by decide +kernel) rfl rfl rfl rfl ?_
  refine ev_aload_n (k0 := 0) rfl d_R_must_0 ?_
  refine cv_get9 (.inl (.int (μ 13 0 16))) hG v_13 fg_ProphecyShopModel_156_13 rfl rfl d_R_must_1 ?_
  obtain ⟨q1, hj, h⟩ := bind_some9 h
  have K_q1 : ∀ G, LM vr 535 547 q1 F G → Ev g (d + 0) m_R_must 24 [some (.inr (0, off 13 0)), none, none] [] (G, nx) 0 0 (pRW vr 535 547 (rI o.1) o.2 F nx) := by
    intro G hG
    refine ev_aload_n (k0 := 0) rfl d_R_must_24 ?_
    refine cv_get9 (.inl (.int (q1 13 0 16))) hG v_13 fg_ProphecyShopModel_156_13 rfl rfl d_R_must_25 ?_
    refine ev_if_ne (tgt := 35) (by decide) d_R_must_28 (fun c => ?_) (fun c => ?_)
    · rw [if_neg c] at h
      refine cw_iconst 0 d_R_must_35 rfl ?_
      have hP := kE _ (Option.some.inj h).symm
      exact ev_ireturn (st := []) rfl rfl d_R_must_36 (by rw [hP]; exact ⟨rfl, hG, rfl⟩)
    · rw [if_pos c] at h
      refine cw_iconst 1 d_R_must_31 rfl ?_
      refine ev_goto (tgt := 36) (by decide) d_R_must_32 ?_
      have hP := kE _ (Option.some.inj h).symm
      exact ev_ireturn (st := []) rfl rfl d_R_must_36 (by rw [hP]; exact ⟨rfl, hG, rfl⟩)
  clear h
  have h := hj
  refine ev_if_ne (tgt := 24) (by decide) d_R_must_4 (fun c => ?_) (fun c => ?_)
  · rw [if_neg c] at h
    obtain rfl := Option.some.inj h
    exact Ev.sub (.s (.n (.n LSb.z))) (K_q1 G hG)
  · rw [if_pos c] at h
    refine ev_iload_n (k0 := 1) rfl d_R_must_7 ?_
    refine ev_if_ne (tgt := 24) (by decide) d_R_must_8 (fun c => ?_) (fun c => ?_)
    · rw [if_neg c] at h
      obtain rfl := Option.some.inj h
      exact Ev.sub (.s (.n (.n LSb.z))) (K_q1 G hG)
    · rw [if_pos c] at h
      refine ev_aload_n (k0 := 0) rfl d_R_must_11 ?_
      refine ev_iload_n (k0 := 2) rfl d_R_must_12 ?_
      obtain ⟨μ2, e_μ2, h⟩ := nm_some h
      refine cv_put (.inl (.int x2)) x2 hG okR v_13 fl_ProphecyShopModel_156_13 rfl rfl okv_int d_R_must_13 ?_
      intro G hG; rw [← e_μ2] at hG
      refine ev_aload_n (k0 := 0) rfl d_R_must_16 ?_
      refine ev_aload_n (k0 := 0) rfl d_R_must_17 ?_
      refine cv_get9 (.inl (.int (μ2 13 0 13))) hG v_13 fg_ProphecyShopModel_141_13 rfl rfl d_R_must_18 ?_
      obtain ⟨μ3, e_μ3, h⟩ := nm_some h
      refine cv_put (.inl (.int (μ2 13 0 13))) (μ2 13 0 13) hG okR v_13 fl_ProphecyShopModel_159_13 rfl rfl okv_int d_R_must_21 ?_
      intro G hG; rw [← e_μ3] at hG
      obtain rfl := Option.some.inj h
      exact Ev.sub (.s (.n (.n LSb.z))) (K_q1 G hG)

/-- ProphecyShopModel.number -/
def f_R_number (x1 : Int32) (x2 : Int32) (μ : Mem) : Option (Int32 × Mem) :=
  ((if (μ 13 0 14) = 2 then (some (1)) else (some (0)) : Option (Int32))).bind (fun q1 => ((f_R_must q1 1 μ)).bind (fun r2 => ((if r2.1 = 0 then (some (r2.2)) else (((f_R_in (r2.2 13 0 15) x1 x2 r2.2)).bind (fun r6 => ((f_R_must r6 2 r2.2)).bind (fun r7 => some (r7.2)))) : Option (Mem))).bind (fun q3 => nm (q3 13 0 15 : Int32) (fun v4 => ((f_R_goesOn q3)).bind (fun r5 => some ((v4, r5)))))))
set_option maxRecDepth 100000 in
set_option maxHeartbeats 4000000 in
theorem w_R_number {g : GL} {F G : RG} {nx : Nat} (d : Nat) {x1 : Int32} {x2 : Int32} {μ : Mem}   {o : Int32 × Mem} (hG : LM vr 535 547 μ F G) (h : f_R_number x1 x2 μ = some o) : Mt g (d + 3) m_R_number [.inr (0, off 13 0), .inl (.int x1), .inl (.int x2)] (G, nx) 0 0 (pRW vr 535 547 (rI o.1) o.2 F nx) := by
  unfold f_R_number at h
  have kE : ∀ v, o = v → pRW vr 535 547 (rI o.1) o.2 F nx = pRW vr 535 547 (rI v.1) v.2 F nx := fun v e => by rw [e]
  refine Mt.of9 [some (.inr (0, off 13 0)), some (.inl (.int x1)), some (.inl (.int x2)), none] (by decide +kernel) rfl rfl rfl rfl ?_
  refine ev_aload_n (k0 := 0) rfl d_R_number_0 ?_
  refine ev_aload_n (k0 := 0) rfl d_R_number_1 ?_
  refine cv_get9 (.inl (.int (μ 13 0 14))) hG v_13 fg_ProphecyShopModel_144_13 rfl rfl d_R_number_2 ?_
  refine cw_iconst 2 d_R_number_5 rfl ?_
  obtain ⟨q1, hj, h⟩ := bind_some9 h
  have K_q1 : Ev g (d + 3) m_R_number 14 [some (.inr (0, off 13 0)), some (.inl (.int x1)), some (.inl (.int x2)), none] [.inl (.int q1), .inr (0, off 13 0)] (G, nx) 0 0 (pRW vr 535 547 (rI o.1) o.2 F nx) := by
    refine cw_iconst 1 d_R_number_14 rfl ?_
    obtain ⟨r2, hr2, h⟩ := bind_some9 h
    refine cv_V (d := d + 2) (mc1 := 0) (ms1 := 0) (mc := 0) (ms := 0) [.inl (.int q1), .inl (.int 1)] hG v_13 rfl lk_ProphecyShopModel_169 (w_R_must (d + 2) hG hr2) rfl rfl d_R_number_15 (aft_rw (fun G hG => ?_))
    refine Ev.at (pc' := 18) rfl (Ev.cong (st' := [.inl (.int r2.1)]) ?_ rfl rfl)
    obtain ⟨q3, hj, h⟩ := bind_some9 h
    have K_q3 : ∀ G, LM vr 535 547 q3 F G → Ev g (d + 3) m_R_number 36 [some (.inr (0, off 13 0)), none, none, none] [] (G, nx) 0 0 (pRW vr 535 547 (rI o.1) o.2 F nx) := by
      intro G hG
      refine ev_aload_n (k0 := 0) rfl d_R_number_36 ?_
      refine cv_get9 (.inl (.int (q3 13 0 15))) hG v_13 fg_ProphecyShopModel_147_13 rfl rfl d_R_number_37 ?_
      obtain ⟨v4, e_v4, h⟩ := nm_some h
      refine cw_istoreN_n 3 v4 e_v4 [some (.inr (0, off 13 0)), none, none, some (.inl (.int v4))] d_R_number_40 rfl rfl rfl ?_
      refine ev_aload_n (k0 := 0) rfl d_R_number_41 ?_
      obtain ⟨r5, hr5, h⟩ := bind_some9 h
      refine cv_V (d := d + 2) (mc1 := 0) (ms1 := 0) (mc := 0) (ms := 0) [] hG v_13 rfl lk_ProphecyShopModel_172 (w_R_goesOn (d + 0) hG hr5) rfl rfl d_R_number_42 (aft_rw (fun G hG => ?_))
      refine Ev.at (pc' := 45) rfl (Ev.cong (st' := []) ?_ rfl rfl)
      refine ev_iload_n (k0 := 3) rfl d_R_number_45 ?_
      have hP := kE _ (Option.some.inj h).symm
      exact ev_ireturn (st := []) rfl rfl d_R_number_46 (by rw [hP]; exact ⟨rfl, hG, rfl⟩)
    clear h
    have h := hj
    refine ev_if_eq (tgt := 36) (by decide) d_R_number_18 (fun c => ?_) (fun c => ?_)
    · rw [if_pos c] at h
      obtain rfl := Option.some.inj h
      exact Ev.sub (.s (.n (.n (.n LSb.z)))) (K_q3 G hG)
    · rw [if_neg c] at h
      refine ev_aload_n (k0 := 0) rfl d_R_number_21 ?_
      refine ev_aload_n (k0 := 0) rfl d_R_number_22 ?_
      refine cv_get9 (.inl (.int (r2.2 13 0 15))) hG v_13 fg_ProphecyShopModel_147_13 rfl rfl d_R_number_23 ?_
      refine ev_iload_n (k0 := 1) rfl d_R_number_26 ?_
      refine ev_iload_n (k0 := 2) rfl d_R_number_27 ?_
      obtain ⟨r6, hr6, h⟩ := bind_some9 h
      refine cw_S (d := d + 2) (mc1 := 0) (ms1 := 0) (mc := 0) (ms := 0) [.inl (.int (r2.2 13 0 15)), .inl (.int x1), .inl (.int x2)] lk_ProphecyShopModel_76 (w_R_in (d + 2) hG hr6) rfl rfl d_R_number_28 (aft_ro ?_)
      refine Ev.at (pc' := 31) rfl (Ev.cong (st' := [.inl (.int r6), .inr (0, off 13 0)]) ?_ rfl rfl)
      refine cw_iconst 2 d_R_number_31 rfl ?_
      obtain ⟨r7, hr7, h⟩ := bind_some9 h
      refine cv_V (d := d + 2) (mc1 := 0) (ms1 := 0) (mc := 0) (ms := 0) [.inl (.int r6), .inl (.int 2)] hG v_13 rfl lk_ProphecyShopModel_169 (w_R_must (d + 2) hG hr7) rfl rfl d_R_number_32 (aft_rw (fun G hG => ?_))
      refine Ev.at (pc' := 35) rfl (Ev.cong (st' := [.inl (.int r7.1)]) ?_ rfl rfl)
      refine ev_pop rfl d_R_number_35 ?_
      obtain rfl := Option.some.inj h
      exact Ev.sub (.s (.n (.n (.n LSb.z)))) (K_q3 G hG)
  clear h
  have h := hj
  refine ev_icmp_ne (tgt := 13) (by decide) d_R_number_6 (fun c => ?_) (fun c => ?_)
  · rw [if_neg c] at h
    refine cw_iconst 0 d_R_number_13 rfl ?_
    obtain rfl := Option.some.inj h
    exact K_q1
  · rw [if_pos c] at h
    refine cw_iconst 1 d_R_number_9 rfl ?_
    refine ev_goto (tgt := 14) (by decide) d_R_number_10 ?_
    obtain rfl := Option.some.inj h
    exact K_q1

/-- ProphecyShopModel.takesSign -/
def f_R_takesSign (x1 : Int32) (μ : Mem) : Option (Mem) :=
  ((f_R_isSign x1 μ)).bind (fun r1 => ((f_R_must r1 1 μ)).bind (fun r2 => ((f_R_goesOn r2.2)).bind (fun r3 => some r3)))
set_option maxRecDepth 100000 in
set_option maxHeartbeats 4000000 in
theorem w_R_takesSign {g : GL} {F G : RG} {nx : Nat} (d : Nat) {x1 : Int32} {μ : Mem}   {o : Mem} (hG : LM vr 535 547 μ F G) (h : f_R_takesSign x1 μ = some o) : Mt g (d + 3) m_R_takesSign [.inr (0, off 13 0), .inl (.int x1)] (G, nx) 0 0 (pRW vr 535 547 rV o F nx) := by
  unfold f_R_takesSign at h
  have kE : ∀ v, o = v → pRW vr 535 547 rV o F nx = pRW vr 535 547 rV v F nx := fun v e => by rw [e]
  refine Mt.of9 [some (.inr (0, off 13 0)), some (.inl (.int x1))] (by decide +kernel) rfl rfl rfl rfl ?_
  refine ev_aload_n (k0 := 0) rfl d_R_takesSign_0 ?_
  refine ev_aload_n (k0 := 0) rfl d_R_takesSign_1 ?_
  refine ev_iload_n (k0 := 1) rfl d_R_takesSign_2 ?_
  obtain ⟨r1, hr1, h⟩ := bind_some9 h
  refine cv_V (d := d + 2) (mc1 := 0) (ms1 := 0) (mc := 0) (ms := 0) [.inl (.int x1)] hG v_13 rfl lk_ProphecyShopModel_165 (w_R_isSign (d + 1) hG hr1) rfl rfl d_R_takesSign_3 (aft_ro ?_)
  refine Ev.at (pc' := 6) rfl (Ev.cong (st' := [.inl (.int r1), .inr (0, off 13 0)]) ?_ rfl rfl)
  refine cw_iconst 1 d_R_takesSign_6 rfl ?_
  obtain ⟨r2, hr2, h⟩ := bind_some9 h
  refine cv_V (d := d + 2) (mc1 := 0) (ms1 := 0) (mc := 0) (ms := 0) [.inl (.int r1), .inl (.int 1)] hG v_13 rfl lk_ProphecyShopModel_169 (w_R_must (d + 2) hG hr2) rfl rfl d_R_takesSign_7 (aft_rw (fun G hG => ?_))
  refine Ev.at (pc' := 10) rfl (Ev.cong (st' := [.inl (.int r2.1)]) ?_ rfl rfl)
  refine ev_pop rfl d_R_takesSign_10 ?_
  refine ev_aload_n (k0 := 0) rfl d_R_takesSign_11 ?_
  obtain ⟨r3, hr3, h⟩ := bind_some9 h
  refine cv_V (d := d + 2) (mc1 := 0) (ms1 := 0) (mc := 0) (ms := 0) [] hG v_13 rfl lk_ProphecyShopModel_172 (w_R_goesOn (d + 0) hG hr3) rfl rfl d_R_takesSign_12 (aft_rw (fun G hG => ?_))
  refine Ev.at (pc' := 15) rfl (Ev.cong (st' := []) ?_ rfl rfl)
  have hP := kE _ (Option.some.inj h).symm
  exact ev_return (st := []) rfl d_R_takesSign_15 (by rw [hP]; exact ⟨rfl, hG, rfl⟩)

/-- ProphecyShopModel.looksAtName -/
def f_R_looksAtName  (μ : Mem) : Option (Int32 × Mem) :=
  ((if (μ 13 0 14) = 1 then (some (1)) else (some (0)) : Option (Int32))).bind (fun q1 => ((f_R_must q1 1 μ)).bind (fun r2 => ((if r2.1 = 0 then (some (r2.2)) else (((if (6 : Int32) < ((r2.2 13 0 12) - (r2.2 13 0 13)) then (some (0)) else (some (1)) : Option (Int32))).bind (fun q5 => ((f_R_must q5 2 r2.2)).bind (fun r6 => some (r6.2)))) : Option (Mem))).bind (fun q3 => if (q3 13 0 16) = 0 then (((f_R_packed (q3 13 0 13) ((q3 13 0 12) - (q3 13 0 13)) q3)).bind (fun r4 => some ((r4, q3)))) else (some ((0, q3))))))
set_option maxRecDepth 100000 in
set_option maxHeartbeats 4000000 in
theorem w_R_looksAtName {g : GL} {F G : RG} {nx : Nat} (d : Nat)  {μ : Mem}   {o : Int32 × Mem} (hG : LM vr 535 547 μ F G) (h : f_R_looksAtName  μ = some o) : Mt g (d + 1) m_R_looksAtName [.inr (0, off 13 0)] (G, nx) 0 0 (pRW vr 535 547 (rI o.1) o.2 F nx) := by
  unfold f_R_looksAtName at h
  have kE : ∀ v, o = v → pRW vr 535 547 (rI o.1) o.2 F nx = pRW vr 535 547 (rI v.1) v.2 F nx := fun v e => by rw [e]
  refine Mt.of9 [some (.inr (0, off 13 0))] (by decide +kernel) rfl rfl rfl rfl ?_
  refine ev_aload_n (k0 := 0) rfl d_R_looksAtName_0 ?_
  refine ev_aload_n (k0 := 0) rfl d_R_looksAtName_1 ?_
  refine cv_get9 (.inl (.int (μ 13 0 14))) hG v_13 fg_ProphecyShopModel_144_13 rfl rfl d_R_looksAtName_2 ?_
  refine cw_iconst 1 d_R_looksAtName_5 rfl ?_
  obtain ⟨q1, hj, h⟩ := bind_some9 h
  have K_q1 : Ev g (d + 1) m_R_looksAtName 14 [some (.inr (0, off 13 0))] [.inl (.int q1), .inr (0, off 13 0)] (G, nx) 0 0 (pRW vr 535 547 (rI o.1) o.2 F nx) := by
    refine cw_iconst 1 d_R_looksAtName_14 rfl ?_
    obtain ⟨r2, hr2, h⟩ := bind_some9 h
    refine cv_V (d := d + 0) (mc1 := 0) (ms1 := 0) (mc := 0) (ms := 0) [.inl (.int q1), .inl (.int 1)] hG v_13 rfl lk_ProphecyShopModel_169 (w_R_must (d + 0) hG hr2) rfl rfl d_R_looksAtName_15 (aft_rw (fun G hG => ?_))
    refine Ev.at (pc' := 18) rfl (Ev.cong (st' := [.inl (.int r2.1)]) ?_ rfl rfl)
    obtain ⟨q3, hj, h⟩ := bind_some9 h
    have K_q3 : ∀ G, LM vr 535 547 q3 F G → Ev g (d + 1) m_R_looksAtName 46 [some (.inr (0, off 13 0))] [] (G, nx) 0 0 (pRW vr 535 547 (rI o.1) o.2 F nx) := by
      intro G hG
      refine ev_aload_n (k0 := 0) rfl d_R_looksAtName_46 ?_
      refine cv_get9 (.inl (.int (q3 13 0 16))) hG v_13 fg_ProphecyShopModel_156_13 rfl rfl d_R_looksAtName_47 ?_
      refine ev_if_ne (tgt := 73) (by decide) d_R_looksAtName_50 (fun c => ?_) (fun c => ?_)
      · rw [if_neg c] at h
        refine cw_iconst 0 d_R_looksAtName_73 rfl ?_
        have hP := kE _ (Option.some.inj h).symm
        exact ev_ireturn (st := []) rfl rfl d_R_looksAtName_74 (by rw [hP]; exact ⟨rfl, hG, rfl⟩)
      · rw [if_pos c] at h
        refine ev_aload_n (k0 := 0) rfl d_R_looksAtName_53 ?_
        refine ev_aload_n (k0 := 0) rfl d_R_looksAtName_54 ?_
        refine cv_get9 (.inl (.int (q3 13 0 13))) hG v_13 fg_ProphecyShopModel_141_13 rfl rfl d_R_looksAtName_55 ?_
        refine ev_aload_n (k0 := 0) rfl d_R_looksAtName_58 ?_
        refine cv_get9 (.inl (.int (q3 13 0 12))) hG v_13 fg_ProphecyShopModel_135_13 rfl rfl d_R_looksAtName_59 ?_
        refine ev_aload_n (k0 := 0) rfl d_R_looksAtName_62 ?_
        refine cv_get9 (.inl (.int (q3 13 0 13))) hG v_13 fg_ProphecyShopModel_141_13 rfl rfl d_R_looksAtName_63 ?_
        refine ev_isub d_R_looksAtName_66 ?_
        obtain ⟨r4, hr4, h⟩ := bind_some9 h
        refine cv_V (d := d + 0) (mc1 := 0) (ms1 := 0) (mc := 0) (ms := 0) [.inl (.int (q3 13 0 13)), .inl (.int ((q3 13 0 12) - (q3 13 0 13)))] hG v_13 rfl lk_ProphecyShopModel_175 (w_R_packed (d + 0) hG hr4) rfl rfl d_R_looksAtName_67 (aft_ro ?_)
        refine Ev.at (pc' := 70) rfl (Ev.cong (st' := [.inl (.int r4)]) ?_ rfl rfl)
        refine ev_goto (tgt := 74) (by decide) d_R_looksAtName_70 ?_
        have hP := kE _ (Option.some.inj h).symm
        exact ev_ireturn (st := []) rfl rfl d_R_looksAtName_74 (by rw [hP]; exact ⟨rfl, hG, rfl⟩)
    clear h
    have h := hj
    refine ev_if_eq (tgt := 46) (by decide) d_R_looksAtName_18 (fun c => ?_) (fun c => ?_)
    · rw [if_pos c] at h
      obtain rfl := Option.some.inj h
      exact K_q3 G hG
    · rw [if_neg c] at h
      refine ev_aload_n (k0 := 0) rfl d_R_looksAtName_21 ?_
      refine ev_aload_n (k0 := 0) rfl d_R_looksAtName_22 ?_
      refine cv_get9 (.inl (.int (r2.2 13 0 12))) hG v_13 fg_ProphecyShopModel_135_13 rfl rfl d_R_looksAtName_23 ?_
      refine ev_aload_n (k0 := 0) rfl d_R_looksAtName_26 ?_
      refine cv_get9 (.inl (.int (r2.2 13 0 13))) hG v_13 fg_ProphecyShopModel_141_13 rfl rfl d_R_looksAtName_27 ?_
      refine ev_isub d_R_looksAtName_30 ?_
      refine cw_bipush 6 d_R_looksAtName_31 rfl ?_
      obtain ⟨q5, hj, h⟩ := bind_some9 h
      have K_q5 : Ev g (d + 1) m_R_looksAtName 41 [some (.inr (0, off 13 0))] [.inl (.int q5), .inr (0, off 13 0)] (G, nx) 0 0 (pRW vr 535 547 (rI o.1) o.2 F nx) := by
        refine cw_iconst 2 d_R_looksAtName_41 rfl ?_
        obtain ⟨r6, hr6, h⟩ := bind_some9 h
        refine cv_V (d := d + 0) (mc1 := 0) (ms1 := 0) (mc := 0) (ms := 0) [.inl (.int q5), .inl (.int 2)] hG v_13 rfl lk_ProphecyShopModel_169 (w_R_must (d + 0) hG hr6) rfl rfl d_R_looksAtName_42 (aft_rw (fun G hG => ?_))
        refine Ev.at (pc' := 45) rfl (Ev.cong (st' := [.inl (.int r6.1)]) ?_ rfl rfl)
        refine ev_pop rfl d_R_looksAtName_45 ?_
        obtain rfl := Option.some.inj h
        exact K_q3 G hG
      clear h
      have h := hj
      refine ev_icmp_gt (tgt := 40) (by decide) d_R_looksAtName_33 (fun c => ?_) (fun c => ?_)
      · rw [if_pos c] at h
        refine cw_iconst 0 d_R_looksAtName_40 rfl ?_
        obtain rfl := Option.some.inj h
        exact K_q5
      · rw [if_neg c] at h
        refine cw_iconst 1 d_R_looksAtName_36 rfl ?_
        refine ev_goto (tgt := 41) (by decide) d_R_looksAtName_37 ?_
        obtain rfl := Option.some.inj h
        exact K_q5
  clear h
  have h := hj
  refine ev_icmp_ne (tgt := 13) (by decide) d_R_looksAtName_6 (fun c => ?_) (fun c => ?_)
  · rw [if_neg c] at h
    refine cw_iconst 0 d_R_looksAtName_13 rfl ?_
    obtain rfl := Option.some.inj h
    exact K_q1
  · rw [if_pos c] at h
    refine cw_iconst 1 d_R_looksAtName_9 rfl ?_
    refine ev_goto (tgt := 14) (by decide) d_R_looksAtName_10 ?_
    obtain rfl := Option.some.inj h
    exact K_q1

/-- ProphecyShopModel.passesName -/
def f_R_passesName (x1 : Int32) (μ : Mem) : Option (Mem) :=
  ((if (μ 13 0 16) = 0 then (if x1 = 0 then (some (0)) else (some (1))) else (some (1)) : Option (Int32))).bind (fun q1 => ((f_R_must q1 3 μ)).bind (fun r2 => ((f_R_goesOn r2.2)).bind (fun r3 => some r3)))
set_option maxRecDepth 100000 in
set_option maxHeartbeats 4000000 in
theorem w_R_passesName {g : GL} {F G : RG} {nx : Nat} (d : Nat) {x1 : Int32} {μ : Mem}   {o : Mem} (hG : LM vr 535 547 μ F G) (h : f_R_passesName x1 μ = some o) : Mt g (d + 3) m_R_passesName [.inr (0, off 13 0), .inl (.int x1)] (G, nx) 0 0 (pRW vr 535 547 rV o F nx) := by
  unfold f_R_passesName at h
  have kE : ∀ v, o = v → pRW vr 535 547 rV o F nx = pRW vr 535 547 rV v F nx := fun v e => by rw [e]
  refine Mt.of9 [some (.inr (0, off 13 0)), some (.inl (.int x1))] (by decide +kernel) rfl rfl rfl rfl ?_
  refine ev_aload_n (k0 := 0) rfl d_R_passesName_0 ?_
  refine ev_aload_n (k0 := 0) rfl d_R_passesName_1 ?_
  refine cv_get9 (.inl (.int (μ 13 0 16))) hG v_13 fg_ProphecyShopModel_156_13 rfl rfl d_R_passesName_2 ?_
  obtain ⟨q1, hj, h⟩ := bind_some9 h
  have K_q1 : Ev g (d + 3) m_R_passesName 17 [some (.inr (0, off 13 0)), none] [.inl (.int q1), .inr (0, off 13 0)] (G, nx) 0 0 (pRW vr 535 547 rV o F nx) := by
    refine cw_iconst 3 d_R_passesName_17 rfl ?_
    obtain ⟨r2, hr2, h⟩ := bind_some9 h
    refine cv_V (d := d + 2) (mc1 := 0) (ms1 := 0) (mc := 0) (ms := 0) [.inl (.int q1), .inl (.int 3)] hG v_13 rfl lk_ProphecyShopModel_169 (w_R_must (d + 2) hG hr2) rfl rfl d_R_passesName_18 (aft_rw (fun G hG => ?_))
    refine Ev.at (pc' := 21) rfl (Ev.cong (st' := [.inl (.int r2.1)]) ?_ rfl rfl)
    refine ev_pop rfl d_R_passesName_21 ?_
    refine ev_aload_n (k0 := 0) rfl d_R_passesName_22 ?_
    obtain ⟨r3, hr3, h⟩ := bind_some9 h
    refine cv_V (d := d + 2) (mc1 := 0) (ms1 := 0) (mc := 0) (ms := 0) [] hG v_13 rfl lk_ProphecyShopModel_172 (w_R_goesOn (d + 0) hG hr3) rfl rfl d_R_passesName_23 (aft_rw (fun G hG => ?_))
    refine Ev.at (pc' := 26) rfl (Ev.cong (st' := []) ?_ rfl rfl)
    have hP := kE _ (Option.some.inj h).symm
    exact ev_return (st := []) rfl d_R_passesName_26 (by rw [hP]; exact ⟨rfl, hG, rfl⟩)
  clear h
  have h := hj
  refine ev_if_ne (tgt := 12) (by decide) d_R_passesName_5 (fun c => ?_) (fun c => ?_)
  · rw [if_neg c] at h
    refine cw_iconst 1 d_R_passesName_12 rfl ?_
    refine ev_goto (tgt := 17) (by decide) d_R_passesName_13 ?_
    obtain rfl := Option.some.inj h
    exact Ev.sub (.s (.n LSb.z)) (K_q1)
  · rw [if_pos c] at h
    refine ev_iload_n (k0 := 1) rfl d_R_passesName_8 ?_
    refine ev_if_eq (tgt := 16) (by decide) d_R_passesName_9 (fun c => ?_) (fun c => ?_)
    · rw [if_pos c] at h
      refine cw_iconst 0 d_R_passesName_16 rfl ?_
      obtain rfl := Option.some.inj h
      exact Ev.sub (.s (.n LSb.z)) (K_q1)
    · rw [if_neg c] at h
      refine cw_iconst 1 d_R_passesName_12 rfl ?_
      refine ev_goto (tgt := 17) (by decide) d_R_passesName_13 ?_
      obtain rfl := Option.some.inj h
      exact Ev.sub (.s (.n LSb.z)) (K_q1)

/-- ProphecyShopModel.readsEvent -/
def f_R_readsEvent  (μ : Mem) : Option (Mem) :=
  ((f_R_isWord 28 μ)).bind (fun r1 => ((f_R_must r1 1 μ)).bind (fun r2 => chk (inb 6 524) (((if (6 : Int32) ≤ (r2.2 40 0 (6 : Int32).toNatClampNeg) then (some (0)) else (some (1)) : Option (Int32))).bind (fun q4 => ((f_R_must q4 4 r2.2)).bind (fun r5 => ((f_R_goesOn r5.2)).bind (fun r6 => ((f_R_looksAtName r6)).bind (fun r7 => ((f_R_eventNamed r7.1 r7.2)).bind (fun r8 => ((if r8 = ((-1)) then (some (1)) else (some (0)) : Option (Int32))).bind (fun q9 => ((f_R_passesName q9 r7.2)).bind (fun r10 => ((f_R_takesSign 59 r10)).bind (fun r11 => if (r11 13 0 16) = 0 then (chk (inb 6 524) (chk (inb (16 + (r11 40 0 (6 : Int32).toNatClampNeg)) 524) (nm (st3 r11 40 0 (16 + (r11 40 0 (6 : Int32).toNatClampNeg)).toNatClampNeg r7.1) (fun μ14 => chk (inb 6 524) (chk (inb 6 524) (nm (st3 μ14 40 0 (6 : Int32).toNatClampNeg ((μ14 40 0 (6 : Int32).toNatClampNeg) + 1)) (fun μ17 => some μ17))))))) else (some r11))))))))))))
set_option maxRecDepth 100000 in
set_option maxHeartbeats 4000000 in
theorem w_R_readsEvent {g : GL} {F G : RG} {nx : Nat} (d : Nat)  {μ : Mem}  (hSG : SG g) {o : Mem} (hG : LM vr 535 547 μ F G) (h : f_R_readsEvent  μ = some o) : Mt g (d + 7) m_R_readsEvent [.inr (0, off 13 0)] (G, nx) 0 0 (pRW vr 535 547 rV o F nx) := by
  unfold f_R_readsEvent at h
  have kE : ∀ v, o = v → pRW vr 535 547 rV o F nx = pRW vr 535 547 rV v F nx := fun v e => by rw [e]
  refine Mt.of9 [some (.inr (0, off 13 0)), none] (by decide +kernel) rfl rfl rfl rfl ?_
  refine ev_aload_n (k0 := 0) rfl d_R_readsEvent_0 ?_
  refine ev_aload_n (k0 := 0) rfl d_R_readsEvent_1 ?_
  refine ev_ldcS st_28 d_R_readsEvent_2 ?_
  obtain ⟨r1, hr1, h⟩ := bind_some9 h
  refine cv_V (d := d + 6) (mc1 := 0) (ms1 := 0) (mc := 0) (ms := 0) [.inr (1, 28)] hG v_13 rfl lk_ProphecyShopModel_200 (w_R_isWord (d + 0) (by decide) hSG hG hr1) rfl rfl d_R_readsEvent_4 (aft_ro ?_)
  refine Ev.at (pc' := 7) rfl (Ev.cong (st' := [.inl (.int r1), .inr (0, off 13 0)]) ?_ rfl rfl)
  refine cw_iconst 1 d_R_readsEvent_7 rfl ?_
  obtain ⟨r2, hr2, h⟩ := bind_some9 h
  refine cv_V (d := d + 6) (mc1 := 0) (ms1 := 0) (mc := 0) (ms := 0) [.inl (.int r1), .inl (.int 1)] hG v_13 rfl lk_ProphecyShopModel_169 (w_R_must (d + 6) hG hr2) rfl rfl d_R_readsEvent_8 (aft_rw (fun G hG => ?_))
  refine Ev.at (pc' := 11) rfl (Ev.cong (st' := [.inl (.int r2.1)]) ?_ rfl rfl)
  refine ev_pop rfl d_R_readsEvent_11 ?_
  refine ev_aload_n (k0 := 0) rfl d_R_readsEvent_12 ?_
  refine ev_aload_n (k0 := 0) rfl d_R_readsEvent_13 ?_
  refine cv_get9 (.inr (0, off 40 0)) hG v_13 fg_ProphecyShopModel_7_13 rfl rfl d_R_readsEvent_14 ?_
  refine cw_bipush 6 d_R_readsEvent_17 rfl ?_
  obtain ⟨b3, h⟩ := chk_some h
  refine cv_iald hG v_40 rfl rfl b3 rfl d_R_readsEvent_19 ?_
  refine cw_bipush 6 d_R_readsEvent_20 rfl ?_
  obtain ⟨q4, hj, h⟩ := bind_some9 h
  have K_q4 : Ev g (d + 7) m_R_readsEvent 30 [some (.inr (0, off 13 0)), none] [.inl (.int q4), .inr (0, off 13 0)] (G, nx) 0 0 (pRW vr 535 547 rV o F nx) := by
    refine cw_iconst 4 d_R_readsEvent_30 rfl ?_
    obtain ⟨r5, hr5, h⟩ := bind_some9 h
    refine cv_V (d := d + 6) (mc1 := 0) (ms1 := 0) (mc := 0) (ms := 0) [.inl (.int q4), .inl (.int 4)] hG v_13 rfl lk_ProphecyShopModel_169 (w_R_must (d + 6) hG hr5) rfl rfl d_R_readsEvent_31 (aft_rw (fun G hG => ?_))
    refine Ev.at (pc' := 34) rfl (Ev.cong (st' := [.inl (.int r5.1)]) ?_ rfl rfl)
    refine ev_pop rfl d_R_readsEvent_34 ?_
    refine ev_aload_n (k0 := 0) rfl d_R_readsEvent_35 ?_
    obtain ⟨r6, hr6, h⟩ := bind_some9 h
    refine cv_V (d := d + 6) (mc1 := 0) (ms1 := 0) (mc := 0) (ms := 0) [] hG v_13 rfl lk_ProphecyShopModel_172 (w_R_goesOn (d + 4) hG hr6) rfl rfl d_R_readsEvent_36 (aft_rw (fun G hG => ?_))
    refine Ev.at (pc' := 39) rfl (Ev.cong (st' := []) ?_ rfl rfl)
    refine ev_aload_n (k0 := 0) rfl d_R_readsEvent_39 ?_
    obtain ⟨r7, hr7, h⟩ := bind_some9 h
    refine cv_V (d := d + 6) (mc1 := 0) (ms1 := 0) (mc := 0) (ms := 0) [] hG v_13 rfl lk_ProphecyShopModel_182 (w_R_looksAtName (d + 5) hG hr7) rfl rfl d_R_readsEvent_40 (aft_rw (fun G hG => ?_))
    refine Ev.at (pc' := 43) rfl (Ev.cong (st' := [.inl (.int r7.1)]) ?_ rfl rfl)
    refine cw_istoreN_n 1 r7.1 rfl [some (.inr (0, off 13 0)), some (.inl (.int r7.1))] d_R_readsEvent_43 rfl rfl rfl ?_
    refine ev_aload_n (k0 := 0) rfl d_R_readsEvent_44 ?_
    refine ev_aload_n (k0 := 0) rfl d_R_readsEvent_45 ?_
    refine ev_iload_n (k0 := 1) rfl d_R_readsEvent_46 ?_
    obtain ⟨r8, hr8, h⟩ := bind_some9 h
    refine cv_V (d := d + 6) (mc1 := 0) (ms1 := 0) (mc := 0) (ms := 0) [.inl (.int r7.1)] hG v_13 rfl lk_ProphecyShopModel_185 (w_R_eventNamed (d + 5) hG hr8) rfl rfl d_R_readsEvent_47 (aft_ro ?_)
    refine Ev.at (pc' := 50) rfl (Ev.cong (st' := [.inl (.int r8), .inr (0, off 13 0)]) ?_ rfl rfl)
    refine cw_iconst (-1) d_R_readsEvent_50 rfl ?_
    obtain ⟨q9, hj, h⟩ := bind_some9 h
    have K_q9 : Ev g (d + 7) m_R_readsEvent 59 [some (.inr (0, off 13 0)), some (.inl (.int r7.1))] [.inl (.int q9), .inr (0, off 13 0)] (G, nx) 0 0 (pRW vr 535 547 rV o F nx) := by
      obtain ⟨r10, hr10, h⟩ := bind_some9 h
      refine cv_V (d := d + 6) (mc1 := 0) (ms1 := 0) (mc := 0) (ms := 0) [.inl (.int q9)] hG v_13 rfl lk_ProphecyShopModel_188 (w_R_passesName (d + 3) hG hr10) rfl rfl d_R_readsEvent_59 (aft_rw (fun G hG => ?_))
      refine Ev.at (pc' := 62) rfl (Ev.cong (st' := []) ?_ rfl rfl)
      refine ev_aload_n (k0 := 0) rfl d_R_readsEvent_62 ?_
      refine cw_bipush 59 d_R_readsEvent_63 rfl ?_
      obtain ⟨r11, hr11, h⟩ := bind_some9 h
      refine cv_V (d := d + 6) (mc1 := 0) (ms1 := 0) (mc := 0) (ms := 0) [.inl (.int 59)] hG v_13 rfl lk_ProphecyShopModel_204 (w_R_takesSign (d + 3) hG hr11) rfl rfl d_R_readsEvent_65 (aft_rw (fun G hG => ?_))
      refine Ev.at (pc' := 68) rfl (Ev.cong (st' := []) ?_ rfl rfl)
      refine ev_aload_n (k0 := 0) rfl d_R_readsEvent_68 ?_
      refine cv_get9 (.inl (.int (r11 13 0 16))) hG v_13 fg_ProphecyShopModel_156_13 rfl rfl d_R_readsEvent_69 ?_
      refine ev_if_eq (tgt := 76) (by decide) d_R_readsEvent_72 (fun c => ?_) (fun c => ?_)
      · rw [if_pos c] at h
        refine ev_aload_n (k0 := 0) rfl d_R_readsEvent_76 ?_
        refine cv_get9 (.inr (0, off 40 0)) hG v_13 fg_ProphecyShopModel_7_13 rfl rfl d_R_readsEvent_77 ?_
        refine cw_bipush 16 d_R_readsEvent_80 rfl ?_
        refine ev_aload_n (k0 := 0) rfl d_R_readsEvent_82 ?_
        refine cv_get9 (.inr (0, off 40 0)) hG v_13 fg_ProphecyShopModel_7_13 rfl rfl d_R_readsEvent_83 ?_
        refine cw_bipush 6 d_R_readsEvent_86 rfl ?_
        obtain ⟨b12, h⟩ := chk_some h
        refine cv_iald hG v_40 rfl rfl b12 rfl d_R_readsEvent_88 ?_
        refine ev_iadd d_R_readsEvent_89 ?_
        refine ev_iload_n (k0 := 1) rfl d_R_readsEvent_90 ?_
        obtain ⟨b13, h⟩ := chk_some h
        obtain ⟨μ14, e_μ14, h⟩ := nm_some h
        refine cv_iast hG okR v_40 rfl rfl b13 rfl d_R_readsEvent_91 ?_
        intro G hG; rw [← e_μ14] at hG
        refine ev_aload_n (k0 := 0) rfl d_R_readsEvent_92 ?_
        refine Ev.at (pc' := 93) rfl ?_
        refine cv_get9 (.inr (0, off 40 0)) hG v_13 fg_ProphecyShopModel_7_13 rfl rfl d_R_readsEvent_93 ?_
        refine cw_bipush 6 d_R_readsEvent_96 rfl ?_
        refine ev_dup2 rfl rfl d_R_readsEvent_98 ?_
        obtain ⟨b15, h⟩ := chk_some h
        refine cv_iald hG v_40 rfl rfl b15 rfl d_R_readsEvent_99 ?_
        refine cw_iconst 1 d_R_readsEvent_100 rfl ?_
        refine ev_iadd d_R_readsEvent_101 ?_
        obtain ⟨b16, h⟩ := chk_some h
        obtain ⟨μ17, e_μ17, h⟩ := nm_some h
        refine cv_iast hG okR v_40 rfl rfl b16 rfl d_R_readsEvent_102 ?_
        intro G hG; rw [← e_μ17] at hG
        have hP := kE _ (Option.some.inj h).symm
        exact ev_return (st := []) rfl d_R_readsEvent_103 (by rw [hP]; exact ⟨rfl, hG, rfl⟩)
      · rw [if_neg c] at h
        have hP := kE _ (Option.some.inj h).symm
        exact ev_return (st := []) rfl d_R_readsEvent_75 (by rw [hP]; exact ⟨rfl, hG, rfl⟩)
    clear h
    have h := hj
    refine ev_icmp_ne (tgt := 58) (by decide) d_R_readsEvent_51 (fun c => ?_) (fun c => ?_)
    · rw [if_neg c] at h
      refine cw_iconst 0 d_R_readsEvent_58 rfl ?_
      obtain rfl := Option.some.inj h
      exact K_q9
    · rw [if_pos c] at h
      refine cw_iconst 1 d_R_readsEvent_54 rfl ?_
      refine ev_goto (tgt := 59) (by decide) d_R_readsEvent_55 ?_
      obtain rfl := Option.some.inj h
      exact K_q9
  clear h
  have h := hj
  refine ev_icmp_ge (tgt := 29) (by decide) d_R_readsEvent_22 (fun c => ?_) (fun c => ?_)
  · rw [if_pos c] at h
    refine cw_iconst 0 d_R_readsEvent_29 rfl ?_
    obtain rfl := Option.some.inj h
    exact K_q4
  · rw [if_neg c] at h
    refine cw_iconst 1 d_R_readsEvent_25 rfl ?_
    refine ev_goto (tgt := 30) (by decide) d_R_readsEvent_26 ?_
    obtain rfl := Option.some.inj h
    exact K_q4

/-- ProphecyShopModel.placeNamed -/
def f_R_placeNamed (x1 : Int32) (μ : Mem) : Option (Int32) :=
  chk (inb 7 524) (((f_R_named x1 22 1 (μ 40 0 (7 : Int32).toNatClampNeg) μ)).bind (fun r2 => some r2))
set_option maxRecDepth 100000 in
set_option maxHeartbeats 4000000 in
theorem w_R_placeNamed {g : GL} {F G : RG} {nx : Nat} (d : Nat) {x1 : Int32} {μ : Mem}   {o : Int32} (hG : LM vr 535 547 μ F G) (h : f_R_placeNamed x1 μ = some o) : Mt g (d + 1) m_R_placeNamed [.inr (0, off 13 0), .inl (.int x1)] (G, nx) 0 0 (pRO (rI o) (G, nx)) := by
  unfold f_R_placeNamed at h
  have kE : ∀ v, o = v → pRO (rI o) (G, nx) = pRO (rI v) (G, nx) := fun v e => by rw [e]
  refine Mt.of9 [some (.inr (0, off 13 0)), some (.inl (.int x1))] (by decide +kernel) rfl rfl rfl rfl ?_
  refine ev_aload_n (k0 := 0) rfl d_R_placeNamed_0 ?_
  refine ev_iload_n (k0 := 1) rfl d_R_placeNamed_1 ?_
  refine cw_bipush 22 d_R_placeNamed_2 rfl ?_
  refine cw_iconst 1 d_R_placeNamed_4 rfl ?_
  refine ev_aload_n (k0 := 0) rfl d_R_placeNamed_5 ?_
  refine cv_get9 (.inr (0, off 40 0)) hG v_13 fg_ProphecyShopModel_7_13 rfl rfl d_R_placeNamed_6 ?_
  refine cw_bipush 7 d_R_placeNamed_9 rfl ?_
  obtain ⟨b1, h⟩ := chk_some h
  refine cv_iald hG v_40 rfl rfl b1 rfl d_R_placeNamed_11 ?_
  obtain ⟨r2, hr2, h⟩ := bind_some9 h
  refine cv_V (d := d + 0) (mc1 := 0) (ms1 := 0) (mc := 0) (ms := 0) [.inl (.int x1), .inl (.int 22), .inl (.int 1), .inl (.int (μ 40 0 (7 : Int32).toNatClampNeg))] hG v_13 rfl lk_ProphecyShopModel_178 (w_R_named (d + 0) hG hr2) rfl rfl d_R_placeNamed_12 (aft_ro ?_)
  refine Ev.at (pc' := 15) rfl (Ev.cong (st' := [.inl (.int r2)]) ?_ rfl rfl)
  have hP := kE _ (Option.some.inj h).symm
  exact ev_ireturn (st := []) rfl rfl d_R_placeNamed_15 (by rw [hP]; exact ⟨rfl, rfl⟩)

/-- ProphecyShopModel.readsPlace -/
def f_R_readsPlace  (μ : Mem) : Option (Mem) :=
  ((f_R_isWord 29 μ)).bind (fun r1 => ((f_R_must r1 1 μ)).bind (fun r2 => chk (inb 7 524) (((if (6 : Int32) ≤ (r2.2 40 0 (7 : Int32).toNatClampNeg) then (some (0)) else (some (1)) : Option (Int32))).bind (fun q4 => ((f_R_must q4 4 r2.2)).bind (fun r5 => ((f_R_goesOn r5.2)).bind (fun r6 => ((f_R_looksAtName r6)).bind (fun r7 => ((f_R_placeNamed r7.1 r7.2)).bind (fun r8 => ((if r8 = ((-1)) then (some (1)) else (some (0)) : Option (Int32))).bind (fun q9 => ((f_R_passesName q9 r7.2)).bind (fun r10 => ((f_R_takesSign 59 r10)).bind (fun r11 => if (r11 13 0 16) = 0 then (chk (inb 7 524) (chk (inb (22 + (r11 40 0 (7 : Int32).toNatClampNeg)) 524) (nm (st3 r11 40 0 (22 + (r11 40 0 (7 : Int32).toNatClampNeg)).toNatClampNeg r7.1) (fun μ14 => chk (inb 7 524) (chk (inb 7 524) (nm (st3 μ14 40 0 (7 : Int32).toNatClampNeg ((μ14 40 0 (7 : Int32).toNatClampNeg) + 1)) (fun μ17 => some μ17))))))) else (some r11))))))))))))
set_option maxRecDepth 100000 in
set_option maxHeartbeats 4000000 in
theorem w_R_readsPlace {g : GL} {F G : RG} {nx : Nat} (d : Nat)  {μ : Mem}  (hSG : SG g) {o : Mem} (hG : LM vr 535 547 μ F G) (h : f_R_readsPlace  μ = some o) : Mt g (d + 7) m_R_readsPlace [.inr (0, off 13 0)] (G, nx) 0 0 (pRW vr 535 547 rV o F nx) := by
  unfold f_R_readsPlace at h
  have kE : ∀ v, o = v → pRW vr 535 547 rV o F nx = pRW vr 535 547 rV v F nx := fun v e => by rw [e]
  refine Mt.of9 [some (.inr (0, off 13 0)), none] (by decide +kernel) rfl rfl rfl rfl ?_
  refine ev_aload_n (k0 := 0) rfl d_R_readsPlace_0 ?_
  refine ev_aload_n (k0 := 0) rfl d_R_readsPlace_1 ?_
  refine ev_ldcS st_29 d_R_readsPlace_2 ?_
  obtain ⟨r1, hr1, h⟩ := bind_some9 h
  refine cv_V (d := d + 6) (mc1 := 0) (ms1 := 0) (mc := 0) (ms := 0) [.inr (1, 29)] hG v_13 rfl lk_ProphecyShopModel_200 (w_R_isWord (d + 0) (by decide) hSG hG hr1) rfl rfl d_R_readsPlace_4 (aft_ro ?_)
  refine Ev.at (pc' := 7) rfl (Ev.cong (st' := [.inl (.int r1), .inr (0, off 13 0)]) ?_ rfl rfl)
  refine cw_iconst 1 d_R_readsPlace_7 rfl ?_
  obtain ⟨r2, hr2, h⟩ := bind_some9 h
  refine cv_V (d := d + 6) (mc1 := 0) (ms1 := 0) (mc := 0) (ms := 0) [.inl (.int r1), .inl (.int 1)] hG v_13 rfl lk_ProphecyShopModel_169 (w_R_must (d + 6) hG hr2) rfl rfl d_R_readsPlace_8 (aft_rw (fun G hG => ?_))
  refine Ev.at (pc' := 11) rfl (Ev.cong (st' := [.inl (.int r2.1)]) ?_ rfl rfl)
  refine ev_pop rfl d_R_readsPlace_11 ?_
  refine ev_aload_n (k0 := 0) rfl d_R_readsPlace_12 ?_
  refine ev_aload_n (k0 := 0) rfl d_R_readsPlace_13 ?_
  refine cv_get9 (.inr (0, off 40 0)) hG v_13 fg_ProphecyShopModel_7_13 rfl rfl d_R_readsPlace_14 ?_
  refine cw_bipush 7 d_R_readsPlace_17 rfl ?_
  obtain ⟨b3, h⟩ := chk_some h
  refine cv_iald hG v_40 rfl rfl b3 rfl d_R_readsPlace_19 ?_
  refine cw_bipush 6 d_R_readsPlace_20 rfl ?_
  obtain ⟨q4, hj, h⟩ := bind_some9 h
  have K_q4 : Ev g (d + 7) m_R_readsPlace 30 [some (.inr (0, off 13 0)), none] [.inl (.int q4), .inr (0, off 13 0)] (G, nx) 0 0 (pRW vr 535 547 rV o F nx) := by
    refine cw_iconst 4 d_R_readsPlace_30 rfl ?_
    obtain ⟨r5, hr5, h⟩ := bind_some9 h
    refine cv_V (d := d + 6) (mc1 := 0) (ms1 := 0) (mc := 0) (ms := 0) [.inl (.int q4), .inl (.int 4)] hG v_13 rfl lk_ProphecyShopModel_169 (w_R_must (d + 6) hG hr5) rfl rfl d_R_readsPlace_31 (aft_rw (fun G hG => ?_))
    refine Ev.at (pc' := 34) rfl (Ev.cong (st' := [.inl (.int r5.1)]) ?_ rfl rfl)
    refine ev_pop rfl d_R_readsPlace_34 ?_
    refine ev_aload_n (k0 := 0) rfl d_R_readsPlace_35 ?_
    obtain ⟨r6, hr6, h⟩ := bind_some9 h
    refine cv_V (d := d + 6) (mc1 := 0) (ms1 := 0) (mc := 0) (ms := 0) [] hG v_13 rfl lk_ProphecyShopModel_172 (w_R_goesOn (d + 4) hG hr6) rfl rfl d_R_readsPlace_36 (aft_rw (fun G hG => ?_))
    refine Ev.at (pc' := 39) rfl (Ev.cong (st' := []) ?_ rfl rfl)
    refine ev_aload_n (k0 := 0) rfl d_R_readsPlace_39 ?_
    obtain ⟨r7, hr7, h⟩ := bind_some9 h
    refine cv_V (d := d + 6) (mc1 := 0) (ms1 := 0) (mc := 0) (ms := 0) [] hG v_13 rfl lk_ProphecyShopModel_182 (w_R_looksAtName (d + 5) hG hr7) rfl rfl d_R_readsPlace_40 (aft_rw (fun G hG => ?_))
    refine Ev.at (pc' := 43) rfl (Ev.cong (st' := [.inl (.int r7.1)]) ?_ rfl rfl)
    refine cw_istoreN_n 1 r7.1 rfl [some (.inr (0, off 13 0)), some (.inl (.int r7.1))] d_R_readsPlace_43 rfl rfl rfl ?_
    refine ev_aload_n (k0 := 0) rfl d_R_readsPlace_44 ?_
    refine ev_aload_n (k0 := 0) rfl d_R_readsPlace_45 ?_
    refine ev_iload_n (k0 := 1) rfl d_R_readsPlace_46 ?_
    obtain ⟨r8, hr8, h⟩ := bind_some9 h
    refine cv_V (d := d + 6) (mc1 := 0) (ms1 := 0) (mc := 0) (ms := 0) [.inl (.int r7.1)] hG v_13 rfl lk_ProphecyShopModel_192 (w_R_placeNamed (d + 5) hG hr8) rfl rfl d_R_readsPlace_47 (aft_ro ?_)
    refine Ev.at (pc' := 50) rfl (Ev.cong (st' := [.inl (.int r8), .inr (0, off 13 0)]) ?_ rfl rfl)
    refine cw_iconst (-1) d_R_readsPlace_50 rfl ?_
    obtain ⟨q9, hj, h⟩ := bind_some9 h
    have K_q9 : Ev g (d + 7) m_R_readsPlace 59 [some (.inr (0, off 13 0)), some (.inl (.int r7.1))] [.inl (.int q9), .inr (0, off 13 0)] (G, nx) 0 0 (pRW vr 535 547 rV o F nx) := by
      obtain ⟨r10, hr10, h⟩ := bind_some9 h
      refine cv_V (d := d + 6) (mc1 := 0) (ms1 := 0) (mc := 0) (ms := 0) [.inl (.int q9)] hG v_13 rfl lk_ProphecyShopModel_188 (w_R_passesName (d + 3) hG hr10) rfl rfl d_R_readsPlace_59 (aft_rw (fun G hG => ?_))
      refine Ev.at (pc' := 62) rfl (Ev.cong (st' := []) ?_ rfl rfl)
      refine ev_aload_n (k0 := 0) rfl d_R_readsPlace_62 ?_
      refine cw_bipush 59 d_R_readsPlace_63 rfl ?_
      obtain ⟨r11, hr11, h⟩ := bind_some9 h
      refine cv_V (d := d + 6) (mc1 := 0) (ms1 := 0) (mc := 0) (ms := 0) [.inl (.int 59)] hG v_13 rfl lk_ProphecyShopModel_204 (w_R_takesSign (d + 3) hG hr11) rfl rfl d_R_readsPlace_65 (aft_rw (fun G hG => ?_))
      refine Ev.at (pc' := 68) rfl (Ev.cong (st' := []) ?_ rfl rfl)
      refine ev_aload_n (k0 := 0) rfl d_R_readsPlace_68 ?_
      refine cv_get9 (.inl (.int (r11 13 0 16))) hG v_13 fg_ProphecyShopModel_156_13 rfl rfl d_R_readsPlace_69 ?_
      refine ev_if_eq (tgt := 76) (by decide) d_R_readsPlace_72 (fun c => ?_) (fun c => ?_)
      · rw [if_pos c] at h
        refine ev_aload_n (k0 := 0) rfl d_R_readsPlace_76 ?_
        refine cv_get9 (.inr (0, off 40 0)) hG v_13 fg_ProphecyShopModel_7_13 rfl rfl d_R_readsPlace_77 ?_
        refine cw_bipush 22 d_R_readsPlace_80 rfl ?_
        refine ev_aload_n (k0 := 0) rfl d_R_readsPlace_82 ?_
        refine cv_get9 (.inr (0, off 40 0)) hG v_13 fg_ProphecyShopModel_7_13 rfl rfl d_R_readsPlace_83 ?_
        refine cw_bipush 7 d_R_readsPlace_86 rfl ?_
        obtain ⟨b12, h⟩ := chk_some h
        refine cv_iald hG v_40 rfl rfl b12 rfl d_R_readsPlace_88 ?_
        refine ev_iadd d_R_readsPlace_89 ?_
        refine ev_iload_n (k0 := 1) rfl d_R_readsPlace_90 ?_
        obtain ⟨b13, h⟩ := chk_some h
        obtain ⟨μ14, e_μ14, h⟩ := nm_some h
        refine cv_iast hG okR v_40 rfl rfl b13 rfl d_R_readsPlace_91 ?_
        intro G hG; rw [← e_μ14] at hG
        refine ev_aload_n (k0 := 0) rfl d_R_readsPlace_92 ?_
        refine Ev.at (pc' := 93) rfl ?_
        refine cv_get9 (.inr (0, off 40 0)) hG v_13 fg_ProphecyShopModel_7_13 rfl rfl d_R_readsPlace_93 ?_
        refine cw_bipush 7 d_R_readsPlace_96 rfl ?_
        refine ev_dup2 rfl rfl d_R_readsPlace_98 ?_
        obtain ⟨b15, h⟩ := chk_some h
        refine cv_iald hG v_40 rfl rfl b15 rfl d_R_readsPlace_99 ?_
        refine cw_iconst 1 d_R_readsPlace_100 rfl ?_
        refine ev_iadd d_R_readsPlace_101 ?_
        obtain ⟨b16, h⟩ := chk_some h
        obtain ⟨μ17, e_μ17, h⟩ := nm_some h
        refine cv_iast hG okR v_40 rfl rfl b16 rfl d_R_readsPlace_102 ?_
        intro G hG; rw [← e_μ17] at hG
        have hP := kE _ (Option.some.inj h).symm
        exact ev_return (st := []) rfl d_R_readsPlace_103 (by rw [hP]; exact ⟨rfl, hG, rfl⟩)
      · rw [if_neg c] at h
        have hP := kE _ (Option.some.inj h).symm
        exact ev_return (st := []) rfl d_R_readsPlace_75 (by rw [hP]; exact ⟨rfl, hG, rfl⟩)
    clear h
    have h := hj
    refine ev_icmp_ne (tgt := 58) (by decide) d_R_readsPlace_51 (fun c => ?_) (fun c => ?_)
    · rw [if_neg c] at h
      refine cw_iconst 0 d_R_readsPlace_58 rfl ?_
      obtain rfl := Option.some.inj h
      exact K_q9
    · rw [if_pos c] at h
      refine cw_iconst 1 d_R_readsPlace_54 rfl ?_
      refine ev_goto (tgt := 59) (by decide) d_R_readsPlace_55 ?_
      obtain rfl := Option.some.inj h
      exact K_q9
  clear h
  have h := hj
  refine ev_icmp_ge (tgt := 29) (by decide) d_R_readsPlace_22 (fun c => ?_) (fun c => ?_)
  · rw [if_pos c] at h
    refine cw_iconst 0 d_R_readsPlace_29 rfl ?_
    obtain rfl := Option.some.inj h
    exact K_q4
  · rw [if_neg c] at h
    refine cw_iconst 1 d_R_readsPlace_25 rfl ?_
    refine ev_goto (tgt := 30) (by decide) d_R_readsPlace_26 ?_
    obtain rfl := Option.some.inj h
    exact K_q4

/-- ProphecyShopModel.readsCustomer -/
def f_R_readsCustomer  (μ : Mem) : Option (Mem) :=
  chk (inb 8 524) (((if (8 : Int32) ≤ (μ 40 0 (8 : Int32).toNatClampNeg) then (some (0)) else (some (1)) : Option (Int32))).bind (fun q2 => ((f_R_must q2 4 μ)).bind (fun r3 => ((f_R_goesOn r3.2)).bind (fun r4 => ((f_R_looksAtName r4)).bind (fun r5 => ((f_R_customerNamed r5.1 r5.2)).bind (fun r6 => ((if r6 = ((-1)) then (some (1)) else (some (0)) : Option (Int32))).bind (fun q7 => ((f_R_passesName q7 r5.2)).bind (fun r8 => ((f_R_number 0 9999 r8)).bind (fun r9 => ((f_R_number 1 30 r9.2)).bind (fun r10 => ((f_R_takesSign 59 r10.2)).bind (fun r11 => if (r11 13 0 16) = 0 then (chk (inb 8 524) (nm (28 + (3 * (r11 40 0 (8 : Int32).toNatClampNeg)) : Int32) (fun v13 => chk (inb (v13 + 0) 524) (nm (st3 r11 40 0 (v13 + 0).toNatClampNeg r5.1) (fun μ15 => chk (inb (v13 + 1) 524) (nm (st3 μ15 40 0 (v13 + 1).toNatClampNeg r9.1) (fun μ17 => chk (inb (v13 + 2) 524) (nm (st3 μ17 40 0 (v13 + 2).toNatClampNeg r10.1) (fun μ19 => chk (inb 15 524) (chk (inb 15 524) (nm (st3 μ19 40 0 (15 : Int32).toNatClampNeg ((μ19 40 0 (15 : Int32).toNatClampNeg) + r9.1)) (fun μ22 => chk (inb 8 524) (chk (inb 8 524) (nm (st3 μ22 40 0 (8 : Int32).toNatClampNeg ((μ22 40 0 (8 : Int32).toNatClampNeg) + 1)) (fun μ25 => some μ25))))))))))))))) else (some r11))))))))))))
set_option maxRecDepth 100000 in
set_option maxHeartbeats 4000000 in
theorem w_R_readsCustomer {g : GL} {F G : RG} {nx : Nat} (d : Nat)  {μ : Mem}   {o : Mem} (hG : LM vr 535 547 μ F G) (h : f_R_readsCustomer  μ = some o) : Mt g (d + 4) m_R_readsCustomer [.inr (0, off 13 0)] (G, nx) 0 0 (pRW vr 535 547 rV o F nx) := by
  unfold f_R_readsCustomer at h
  have kE : ∀ v, o = v → pRW vr 535 547 rV o F nx = pRW vr 535 547 rV v F nx := fun v e => by rw [e]
  refine Mt.of9 [some (.inr (0, off 13 0)), none, none, none, none] (by decide +kernel) rfl rfl rfl rfl ?_
  refine ev_aload_n (k0 := 0) rfl d_R_readsCustomer_0 ?_
  refine ev_aload_n (k0 := 0) rfl d_R_readsCustomer_1 ?_
  refine cv_get9 (.inr (0, off 40 0)) hG v_13 fg_ProphecyShopModel_7_13 rfl rfl d_R_readsCustomer_2 ?_
  refine cw_bipush 8 d_R_readsCustomer_5 rfl ?_
  obtain ⟨b1, h⟩ := chk_some h
  refine cv_iald hG v_40 rfl rfl b1 rfl d_R_readsCustomer_7 ?_
  refine cw_bipush 8 d_R_readsCustomer_8 rfl ?_
  obtain ⟨q2, hj, h⟩ := bind_some9 h
  have K_q2 : Ev g (d + 4) m_R_readsCustomer 18 [some (.inr (0, off 13 0)), none, none, none, none] [.inl (.int q2), .inr (0, off 13 0)] (G, nx) 0 0 (pRW vr 535 547 rV o F nx) := by
    refine cw_iconst 4 d_R_readsCustomer_18 rfl ?_
    obtain ⟨r3, hr3, h⟩ := bind_some9 h
    refine cv_V (d := d + 3) (mc1 := 0) (ms1 := 0) (mc := 0) (ms := 0) [.inl (.int q2), .inl (.int 4)] hG v_13 rfl lk_ProphecyShopModel_169 (w_R_must (d + 3) hG hr3) rfl rfl d_R_readsCustomer_19 (aft_rw (fun G hG => ?_))
    refine Ev.at (pc' := 22) rfl (Ev.cong (st' := [.inl (.int r3.1)]) ?_ rfl rfl)
    refine ev_pop rfl d_R_readsCustomer_22 ?_
    refine ev_aload_n (k0 := 0) rfl d_R_readsCustomer_23 ?_
    obtain ⟨r4, hr4, h⟩ := bind_some9 h
    refine cv_V (d := d + 3) (mc1 := 0) (ms1 := 0) (mc := 0) (ms := 0) [] hG v_13 rfl lk_ProphecyShopModel_172 (w_R_goesOn (d + 1) hG hr4) rfl rfl d_R_readsCustomer_24 (aft_rw (fun G hG => ?_))
    refine Ev.at (pc' := 27) rfl (Ev.cong (st' := []) ?_ rfl rfl)
    refine ev_aload_n (k0 := 0) rfl d_R_readsCustomer_27 ?_
    obtain ⟨r5, hr5, h⟩ := bind_some9 h
    refine cv_V (d := d + 3) (mc1 := 0) (ms1 := 0) (mc := 0) (ms := 0) [] hG v_13 rfl lk_ProphecyShopModel_182 (w_R_looksAtName (d + 2) hG hr5) rfl rfl d_R_readsCustomer_28 (aft_rw (fun G hG => ?_))
    refine Ev.at (pc' := 31) rfl (Ev.cong (st' := [.inl (.int r5.1)]) ?_ rfl rfl)
    refine cw_istoreN_n 1 r5.1 rfl [some (.inr (0, off 13 0)), some (.inl (.int r5.1)), none, none, none] d_R_readsCustomer_31 rfl rfl rfl ?_
    refine ev_aload_n (k0 := 0) rfl d_R_readsCustomer_32 ?_
    refine ev_aload_n (k0 := 0) rfl d_R_readsCustomer_33 ?_
    refine ev_iload_n (k0 := 1) rfl d_R_readsCustomer_34 ?_
    obtain ⟨r6, hr6, h⟩ := bind_some9 h
    refine cv_V (d := d + 3) (mc1 := 0) (ms1 := 0) (mc := 0) (ms := 0) [.inl (.int r5.1)] hG v_13 rfl lk_ProphecyShopModel_195 (w_R_customerNamed (d + 2) hG hr6) rfl rfl d_R_readsCustomer_35 (aft_ro ?_)
    refine Ev.at (pc' := 38) rfl (Ev.cong (st' := [.inl (.int r6), .inr (0, off 13 0)]) ?_ rfl rfl)
    refine cw_iconst (-1) d_R_readsCustomer_38 rfl ?_
    obtain ⟨q7, hj, h⟩ := bind_some9 h
    have K_q7 : Ev g (d + 4) m_R_readsCustomer 47 [some (.inr (0, off 13 0)), some (.inl (.int r5.1)), none, none, none] [.inl (.int q7), .inr (0, off 13 0)] (G, nx) 0 0 (pRW vr 535 547 rV o F nx) := by
      obtain ⟨r8, hr8, h⟩ := bind_some9 h
      refine cv_V (d := d + 3) (mc1 := 0) (ms1 := 0) (mc := 0) (ms := 0) [.inl (.int q7)] hG v_13 rfl lk_ProphecyShopModel_188 (w_R_passesName (d + 0) hG hr8) rfl rfl d_R_readsCustomer_47 (aft_rw (fun G hG => ?_))
      refine Ev.at (pc' := 50) rfl (Ev.cong (st' := []) ?_ rfl rfl)
      refine ev_aload_n (k0 := 0) rfl d_R_readsCustomer_50 ?_
      refine cw_iconst 0 d_R_readsCustomer_51 rfl ?_
      refine cw_sipush 9999 d_R_readsCustomer_52 rfl ?_
      obtain ⟨r9, hr9, h⟩ := bind_some9 h
      refine cv_V (d := d + 3) (mc1 := 0) (ms1 := 0) (mc := 0) (ms := 0) [.inl (.int 0), .inl (.int 9999)] hG v_13 rfl lk_ProphecyShopModel_208 (w_R_number (d + 0) hG hr9) rfl rfl d_R_readsCustomer_55 (aft_rw (fun G hG => ?_))
      refine Ev.at (pc' := 58) rfl (Ev.cong (st' := [.inl (.int r9.1)]) ?_ rfl rfl)
      refine cw_istoreN_n 2 r9.1 rfl [some (.inr (0, off 13 0)), some (.inl (.int r5.1)), some (.inl (.int r9.1)), none, none] d_R_readsCustomer_58 rfl rfl rfl ?_
      refine ev_aload_n (k0 := 0) rfl d_R_readsCustomer_59 ?_
      refine cw_iconst 1 d_R_readsCustomer_60 rfl ?_
      refine cw_bipush 30 d_R_readsCustomer_61 rfl ?_
      obtain ⟨r10, hr10, h⟩ := bind_some9 h
      refine cv_V (d := d + 3) (mc1 := 0) (ms1 := 0) (mc := 0) (ms := 0) [.inl (.int 1), .inl (.int 30)] hG v_13 rfl lk_ProphecyShopModel_208 (w_R_number (d + 0) hG hr10) rfl rfl d_R_readsCustomer_63 (aft_rw (fun G hG => ?_))
      refine Ev.at (pc' := 66) rfl (Ev.cong (st' := [.inl (.int r10.1)]) ?_ rfl rfl)
      refine cw_istoreN_n 3 r10.1 rfl [some (.inr (0, off 13 0)), some (.inl (.int r5.1)), some (.inl (.int r9.1)), some (.inl (.int r10.1)), none] d_R_readsCustomer_66 rfl rfl rfl ?_
      refine ev_aload_n (k0 := 0) rfl d_R_readsCustomer_67 ?_
      refine cw_bipush 59 d_R_readsCustomer_68 rfl ?_
      obtain ⟨r11, hr11, h⟩ := bind_some9 h
      refine cv_V (d := d + 3) (mc1 := 0) (ms1 := 0) (mc := 0) (ms := 0) [.inl (.int 59)] hG v_13 rfl lk_ProphecyShopModel_204 (w_R_takesSign (d + 0) hG hr11) rfl rfl d_R_readsCustomer_70 (aft_rw (fun G hG => ?_))
      refine Ev.at (pc' := 73) rfl (Ev.cong (st' := []) ?_ rfl rfl)
      refine ev_aload_n (k0 := 0) rfl d_R_readsCustomer_73 ?_
      refine cv_get9 (.inl (.int (r11 13 0 16))) hG v_13 fg_ProphecyShopModel_156_13 rfl rfl d_R_readsCustomer_74 ?_
      refine ev_if_eq (tgt := 81) (by decide) d_R_readsCustomer_77 (fun c => ?_) (fun c => ?_)
      · rw [if_pos c] at h
        refine cw_bipush 28 d_R_readsCustomer_81 rfl ?_
        refine cw_iconst 3 d_R_readsCustomer_83 rfl ?_
        refine ev_aload_n (k0 := 0) rfl d_R_readsCustomer_84 ?_
        refine cv_get9 (.inr (0, off 40 0)) hG v_13 fg_ProphecyShopModel_7_13 rfl rfl d_R_readsCustomer_85 ?_
        refine cw_bipush 8 d_R_readsCustomer_88 rfl ?_
        obtain ⟨b12, h⟩ := chk_some h
        refine cv_iald hG v_40 rfl rfl b12 rfl d_R_readsCustomer_90 ?_
        refine ev_imul d_R_readsCustomer_91 ?_
        refine ev_iadd d_R_readsCustomer_92 ?_
        obtain ⟨v13, e_v13, h⟩ := nm_some h
        refine cw_istoreN 4 v13 e_v13 [some (.inr (0, off 13 0)), some (.inl (.int r5.1)), some (.inl (.int r9.1)), some (.inl (.int r10.1)), some (.inl (.int v13))] d_R_readsCustomer_93 rfl rfl rfl ?_
        refine ev_aload_n (k0 := 0) rfl d_R_readsCustomer_95 ?_
        refine cv_get9 (.inr (0, off 40 0)) hG v_13 fg_ProphecyShopModel_7_13 rfl rfl d_R_readsCustomer_96 ?_
        refine Ev.at (pc' := 99) rfl ?_
        refine ev_iload (i := 4) rfl d_R_readsCustomer_99 ?_
        refine cw_iconst 0 d_R_readsCustomer_101 rfl ?_
        refine ev_iadd d_R_readsCustomer_102 ?_
        refine ev_iload_n (k0 := 1) rfl d_R_readsCustomer_103 ?_
        obtain ⟨b14, h⟩ := chk_some h
        obtain ⟨μ15, e_μ15, h⟩ := nm_some h
        refine cv_iast hG okR v_40 rfl rfl b14 rfl d_R_readsCustomer_104 ?_
        intro G hG; rw [← e_μ15] at hG
        refine ev_aload_n (k0 := 0) rfl d_R_readsCustomer_105 ?_
        refine cv_get9 (.inr (0, off 40 0)) hG v_13 fg_ProphecyShopModel_7_13 rfl rfl d_R_readsCustomer_106 ?_
        refine ev_iload (i := 4) rfl d_R_readsCustomer_109 ?_
        refine cw_iconst 1 d_R_readsCustomer_111 rfl ?_
        refine ev_iadd d_R_readsCustomer_112 ?_
        refine ev_iload_n (k0 := 2) rfl d_R_readsCustomer_113 ?_
        obtain ⟨b16, h⟩ := chk_some h
        obtain ⟨μ17, e_μ17, h⟩ := nm_some h
        refine cv_iast hG okR v_40 rfl rfl b16 rfl d_R_readsCustomer_114 ?_
        intro G hG; rw [← e_μ17] at hG
        refine Ev.at (pc' := 115) rfl ?_
        refine ev_aload_n (k0 := 0) rfl d_R_readsCustomer_115 ?_
        refine cv_get9 (.inr (0, off 40 0)) hG v_13 fg_ProphecyShopModel_7_13 rfl rfl d_R_readsCustomer_116 ?_
        refine ev_iload (i := 4) rfl d_R_readsCustomer_119 ?_
        refine cw_iconst 2 d_R_readsCustomer_121 rfl ?_
        refine ev_iadd d_R_readsCustomer_122 ?_
        refine ev_iload_n (k0 := 3) rfl d_R_readsCustomer_123 ?_
        obtain ⟨b18, h⟩ := chk_some h
        obtain ⟨μ19, e_μ19, h⟩ := nm_some h
        refine cv_iast hG okR v_40 rfl rfl b18 rfl d_R_readsCustomer_124 ?_
        intro G hG; rw [← e_μ19] at hG
        refine ev_aload_n (k0 := 0) rfl d_R_readsCustomer_125 ?_
        refine cv_get9 (.inr (0, off 40 0)) hG v_13 fg_ProphecyShopModel_7_13 rfl rfl d_R_readsCustomer_126 ?_
        refine cw_bipush 15 d_R_readsCustomer_129 rfl ?_
        refine ev_dup2 rfl rfl d_R_readsCustomer_131 ?_
        obtain ⟨b20, h⟩ := chk_some h
        refine cv_iald hG v_40 rfl rfl b20 rfl d_R_readsCustomer_132 ?_
        refine Ev.at (pc' := 133) rfl ?_
        refine ev_iload_n (k0 := 2) rfl d_R_readsCustomer_133 ?_
        refine ev_iadd d_R_readsCustomer_134 ?_
        obtain ⟨b21, h⟩ := chk_some h
        obtain ⟨μ22, e_μ22, h⟩ := nm_some h
        refine cv_iast hG okR v_40 rfl rfl b21 rfl d_R_readsCustomer_135 ?_
        intro G hG; rw [← e_μ22] at hG
        refine ev_aload_n (k0 := 0) rfl d_R_readsCustomer_136 ?_
        refine cv_get9 (.inr (0, off 40 0)) hG v_13 fg_ProphecyShopModel_7_13 rfl rfl d_R_readsCustomer_137 ?_
        refine cw_bipush 8 d_R_readsCustomer_140 rfl ?_
        refine ev_dup2 rfl rfl d_R_readsCustomer_142 ?_
        obtain ⟨b23, h⟩ := chk_some h
        refine cv_iald hG v_40 rfl rfl b23 rfl d_R_readsCustomer_143 ?_
        refine cw_iconst 1 d_R_readsCustomer_144 rfl ?_
        refine ev_iadd d_R_readsCustomer_145 ?_
        obtain ⟨b24, h⟩ := chk_some h
        obtain ⟨μ25, e_μ25, h⟩ := nm_some h
        refine cv_iast hG okR v_40 rfl rfl b24 rfl d_R_readsCustomer_146 ?_
        intro G hG; rw [← e_μ25] at hG
        have hP := kE _ (Option.some.inj h).symm
        exact ev_return (st := []) rfl d_R_readsCustomer_147 (by rw [hP]; exact ⟨rfl, hG, rfl⟩)
      · rw [if_neg c] at h
        have hP := kE _ (Option.some.inj h).symm
        exact ev_return (st := []) rfl d_R_readsCustomer_80 (by rw [hP]; exact ⟨rfl, hG, rfl⟩)
    clear h
    have h := hj
    refine ev_icmp_ne (tgt := 46) (by decide) d_R_readsCustomer_39 (fun c => ?_) (fun c => ?_)
    · rw [if_neg c] at h
      refine cw_iconst 0 d_R_readsCustomer_46 rfl ?_
      obtain rfl := Option.some.inj h
      exact K_q7
    · rw [if_pos c] at h
      refine cw_iconst 1 d_R_readsCustomer_42 rfl ?_
      refine ev_goto (tgt := 47) (by decide) d_R_readsCustomer_43 ?_
      obtain rfl := Option.some.inj h
      exact K_q7
  clear h
  have h := hj
  refine ev_icmp_ge (tgt := 17) (by decide) d_R_readsCustomer_10 (fun c => ?_) (fun c => ?_)
  · rw [if_pos c] at h
    refine cw_iconst 0 d_R_readsCustomer_17 rfl ?_
    obtain rfl := Option.some.inj h
    exact K_q2
  · rw [if_neg c] at h
    refine cw_iconst 1 d_R_readsCustomer_13 rfl ?_
    refine ev_goto (tgt := 18) (by decide) d_R_readsCustomer_14 ?_
    obtain rfl := Option.some.inj h
    exact K_q2

/-- ProphecyShopModel.readsOwl -/
def f_R_readsOwl  (μ : Mem) : Option (Mem) :=
  ((f_R_isWord 31 μ)).bind (fun r1 => ((f_R_must r1 1 μ)).bind (fun r2 => chk (inb 9 524) (((if (5 : Int32) ≤ (r2.2 40 0 (9 : Int32).toNatClampNeg) then (some (0)) else (some (1)) : Option (Int32))).bind (fun q4 => ((f_R_must q4 4 r2.2)).bind (fun r5 => ((f_R_goesOn r5.2)).bind (fun r6 => ((f_R_number 1 9 r6)).bind (fun r7 => ((f_R_takesSign 59 r7.2)).bind (fun r8 => if (r8 13 0 16) = 0 then (chk (inb 9 524) (((f_R_putOwl (r8 40 0 (9 : Int32).toNatClampNeg) 0 r7.1 r8)).bind (fun r10 => chk (inb 9 524) (((f_R_putOwl (r10 40 0 (9 : Int32).toNatClampNeg) 3 (-1) r10)).bind (fun r12 => chk (inb 9 524) (chk (inb 9 524) (nm (st3 r12 40 0 (9 : Int32).toNatClampNeg ((r12 40 0 (9 : Int32).toNatClampNeg) + 1)) (fun μ15 => some μ15)))))))) else (some r8)))))))))
set_option maxRecDepth 100000 in
set_option maxHeartbeats 4000000 in
theorem w_R_readsOwl {g : GL} {F G : RG} {nx : Nat} (d : Nat)  {μ : Mem}  (hSG : SG g) {o : Mem} (hG : LM vr 535 547 μ F G) (h : f_R_readsOwl  μ = some o) : Mt g (d + 7) m_R_readsOwl [.inr (0, off 13 0)] (G, nx) 0 0 (pRW vr 535 547 rV o F nx) := by
  unfold f_R_readsOwl at h
  have kE : ∀ v, o = v → pRW vr 535 547 rV o F nx = pRW vr 535 547 rV v F nx := fun v e => by rw [e]
  refine Mt.of9 [some (.inr (0, off 13 0)), none] (by decide +kernel) rfl rfl rfl rfl ?_
  refine ev_aload_n (k0 := 0) rfl d_R_readsOwl_0 ?_
  refine ev_aload_n (k0 := 0) rfl d_R_readsOwl_1 ?_
  refine ev_ldcS st_31 d_R_readsOwl_2 ?_
  obtain ⟨r1, hr1, h⟩ := bind_some9 h
  refine cv_V (d := d + 6) (mc1 := 0) (ms1 := 0) (mc := 0) (ms := 0) [.inr (1, 31)] hG v_13 rfl lk_ProphecyShopModel_200 (w_R_isWord (d + 0) (by decide) hSG hG hr1) rfl rfl d_R_readsOwl_4 (aft_ro ?_)
  refine Ev.at (pc' := 7) rfl (Ev.cong (st' := [.inl (.int r1), .inr (0, off 13 0)]) ?_ rfl rfl)
  refine cw_iconst 1 d_R_readsOwl_7 rfl ?_
  obtain ⟨r2, hr2, h⟩ := bind_some9 h
  refine cv_V (d := d + 6) (mc1 := 0) (ms1 := 0) (mc := 0) (ms := 0) [.inl (.int r1), .inl (.int 1)] hG v_13 rfl lk_ProphecyShopModel_169 (w_R_must (d + 6) hG hr2) rfl rfl d_R_readsOwl_8 (aft_rw (fun G hG => ?_))
  refine Ev.at (pc' := 11) rfl (Ev.cong (st' := [.inl (.int r2.1)]) ?_ rfl rfl)
  refine ev_pop rfl d_R_readsOwl_11 ?_
  refine ev_aload_n (k0 := 0) rfl d_R_readsOwl_12 ?_
  refine ev_aload_n (k0 := 0) rfl d_R_readsOwl_13 ?_
  refine cv_get9 (.inr (0, off 40 0)) hG v_13 fg_ProphecyShopModel_7_13 rfl rfl d_R_readsOwl_14 ?_
  refine cw_bipush 9 d_R_readsOwl_17 rfl ?_
  obtain ⟨b3, h⟩ := chk_some h
  refine cv_iald hG v_40 rfl rfl b3 rfl d_R_readsOwl_19 ?_
  refine cw_iconst 5 d_R_readsOwl_20 rfl ?_
  obtain ⟨q4, hj, h⟩ := bind_some9 h
  have K_q4 : Ev g (d + 7) m_R_readsOwl 29 [some (.inr (0, off 13 0)), none] [.inl (.int q4), .inr (0, off 13 0)] (G, nx) 0 0 (pRW vr 535 547 rV o F nx) := by
    refine cw_iconst 4 d_R_readsOwl_29 rfl ?_
    obtain ⟨r5, hr5, h⟩ := bind_some9 h
    refine cv_V (d := d + 6) (mc1 := 0) (ms1 := 0) (mc := 0) (ms := 0) [.inl (.int q4), .inl (.int 4)] hG v_13 rfl lk_ProphecyShopModel_169 (w_R_must (d + 6) hG hr5) rfl rfl d_R_readsOwl_30 (aft_rw (fun G hG => ?_))
    refine Ev.at (pc' := 33) rfl (Ev.cong (st' := [.inl (.int r5.1)]) ?_ rfl rfl)
    refine ev_pop rfl d_R_readsOwl_33 ?_
    refine ev_aload_n (k0 := 0) rfl d_R_readsOwl_34 ?_
    obtain ⟨r6, hr6, h⟩ := bind_some9 h
    refine cv_V (d := d + 6) (mc1 := 0) (ms1 := 0) (mc := 0) (ms := 0) [] hG v_13 rfl lk_ProphecyShopModel_172 (w_R_goesOn (d + 4) hG hr6) rfl rfl d_R_readsOwl_35 (aft_rw (fun G hG => ?_))
    refine Ev.at (pc' := 38) rfl (Ev.cong (st' := []) ?_ rfl rfl)
    refine ev_aload_n (k0 := 0) rfl d_R_readsOwl_38 ?_
    refine cw_iconst 1 d_R_readsOwl_39 rfl ?_
    refine cw_bipush 9 d_R_readsOwl_40 rfl ?_
    obtain ⟨r7, hr7, h⟩ := bind_some9 h
    refine cv_V (d := d + 6) (mc1 := 0) (ms1 := 0) (mc := 0) (ms := 0) [.inl (.int 1), .inl (.int 9)] hG v_13 rfl lk_ProphecyShopModel_208 (w_R_number (d + 3) hG hr7) rfl rfl d_R_readsOwl_42 (aft_rw (fun G hG => ?_))
    refine Ev.at (pc' := 45) rfl (Ev.cong (st' := [.inl (.int r7.1)]) ?_ rfl rfl)
    refine cw_istoreN_n 1 r7.1 rfl [some (.inr (0, off 13 0)), some (.inl (.int r7.1))] d_R_readsOwl_45 rfl rfl rfl ?_
    refine ev_aload_n (k0 := 0) rfl d_R_readsOwl_46 ?_
    refine cw_bipush 59 d_R_readsOwl_47 rfl ?_
    obtain ⟨r8, hr8, h⟩ := bind_some9 h
    refine cv_V (d := d + 6) (mc1 := 0) (ms1 := 0) (mc := 0) (ms := 0) [.inl (.int 59)] hG v_13 rfl lk_ProphecyShopModel_204 (w_R_takesSign (d + 3) hG hr8) rfl rfl d_R_readsOwl_49 (aft_rw (fun G hG => ?_))
    refine Ev.at (pc' := 52) rfl (Ev.cong (st' := []) ?_ rfl rfl)
    refine ev_aload_n (k0 := 0) rfl d_R_readsOwl_52 ?_
    refine cv_get9 (.inl (.int (r8 13 0 16))) hG v_13 fg_ProphecyShopModel_156_13 rfl rfl d_R_readsOwl_53 ?_
    refine ev_if_eq (tgt := 60) (by decide) d_R_readsOwl_56 (fun c => ?_) (fun c => ?_)
    · rw [if_pos c] at h
      refine ev_aload_n (k0 := 0) rfl d_R_readsOwl_60 ?_
      refine ev_aload_n (k0 := 0) rfl d_R_readsOwl_61 ?_
      refine cv_get9 (.inr (0, off 40 0)) hG v_13 fg_ProphecyShopModel_7_13 rfl rfl d_R_readsOwl_62 ?_
      refine cw_bipush 9 d_R_readsOwl_65 rfl ?_
      obtain ⟨b9, h⟩ := chk_some h
      refine cv_iald hG v_40 rfl rfl b9 rfl d_R_readsOwl_67 ?_
      refine cw_iconst 0 d_R_readsOwl_68 rfl ?_
      refine ev_iload_n (k0 := 1) rfl d_R_readsOwl_69 ?_
      obtain ⟨r10, hr10, h⟩ := bind_some9 h
      refine cv_V (d := d + 6) (mc1 := 0) (ms1 := 0) (mc := 0) (ms := 0) [.inl (.int (r8 40 0 (9 : Int32).toNatClampNeg)), .inl (.int 0), .inl (.int r7.1)] hG v_13 rfl lk_ProphecyShopModel_104 (w_R_putOwl (d + 6) hG hr10) rfl rfl d_R_readsOwl_70 (aft_rw (fun G hG => ?_))
      refine Ev.at (pc' := 73) rfl (Ev.cong (st' := []) ?_ rfl rfl)
      refine ev_aload_n (k0 := 0) rfl d_R_readsOwl_73 ?_
      refine ev_aload_n (k0 := 0) rfl d_R_readsOwl_74 ?_
      refine cv_get9 (.inr (0, off 40 0)) hG v_13 fg_ProphecyShopModel_7_13 rfl rfl d_R_readsOwl_75 ?_
      refine cw_bipush 9 d_R_readsOwl_78 rfl ?_
      obtain ⟨b11, h⟩ := chk_some h
      refine cv_iald hG v_40 rfl rfl b11 rfl d_R_readsOwl_80 ?_
      refine cw_iconst 3 d_R_readsOwl_81 rfl ?_
      refine cw_iconst (-1) d_R_readsOwl_82 rfl ?_
      obtain ⟨r12, hr12, h⟩ := bind_some9 h
      refine cv_V (d := d + 6) (mc1 := 0) (ms1 := 0) (mc := 0) (ms := 0) [.inl (.int (r10 40 0 (9 : Int32).toNatClampNeg)), .inl (.int 3), .inl (.int ((-1)))] hG v_13 rfl lk_ProphecyShopModel_104 (w_R_putOwl (d + 6) hG hr12) rfl rfl d_R_readsOwl_83 (aft_rw (fun G hG => ?_))
      refine Ev.at (pc' := 86) rfl (Ev.cong (st' := []) ?_ rfl rfl)
      refine ev_aload_n (k0 := 0) rfl d_R_readsOwl_86 ?_
      refine cv_get9 (.inr (0, off 40 0)) hG v_13 fg_ProphecyShopModel_7_13 rfl rfl d_R_readsOwl_87 ?_
      refine cw_bipush 9 d_R_readsOwl_90 rfl ?_
      refine ev_dup2 rfl rfl d_R_readsOwl_92 ?_
      obtain ⟨b13, h⟩ := chk_some h
      refine cv_iald hG v_40 rfl rfl b13 rfl d_R_readsOwl_93 ?_
      refine cw_iconst 1 d_R_readsOwl_94 rfl ?_
      refine ev_iadd d_R_readsOwl_95 ?_
      obtain ⟨b14, h⟩ := chk_some h
      obtain ⟨μ15, e_μ15, h⟩ := nm_some h
      refine cv_iast hG okR v_40 rfl rfl b14 rfl d_R_readsOwl_96 ?_
      intro G hG; rw [← e_μ15] at hG
      have hP := kE _ (Option.some.inj h).symm
      exact ev_return (st := []) rfl d_R_readsOwl_97 (by rw [hP]; exact ⟨rfl, hG, rfl⟩)
    · rw [if_neg c] at h
      have hP := kE _ (Option.some.inj h).symm
      exact ev_return (st := []) rfl d_R_readsOwl_59 (by rw [hP]; exact ⟨rfl, hG, rfl⟩)
  clear h
  have h := hj
  refine ev_icmp_ge (tgt := 28) (by decide) d_R_readsOwl_21 (fun c => ?_) (fun c => ?_)
  · rw [if_pos c] at h
    refine cw_iconst 0 d_R_readsOwl_28 rfl ?_
    obtain rfl := Option.some.inj h
    exact K_q4
  · rw [if_neg c] at h
    refine cw_iconst 1 d_R_readsOwl_24 rfl ?_
    refine ev_goto (tgt := 29) (by decide) d_R_readsOwl_25 ?_
    obtain rfl := Option.some.inj h
    exact K_q4

/-- ProphecyShopModel.readsSetup -/
def s_R_readsSetup_106   (μ : Mem) : Option ((Mem) ⊕ (Mem)) :=
  ((f_R_isWord 28 μ)).bind (fun r1 => if r1 = 0 then (some (.inr μ)) else (((f_R_readsEvent μ)).bind (fun r2 => some (.inl r2))))
def s_R_readsSetup_126   (μ : Mem) : Option ((Mem) ⊕ (Mem)) :=
  ((f_R_isWord 29 μ)).bind (fun r1 => if r1 = 0 then (some (.inr μ)) else (((f_R_readsPlace μ)).bind (fun r2 => some (.inl r2))))
def s_R_readsSetup_142   (μ : Mem) : Option ((Mem) ⊕ (Mem)) :=
  ((f_R_isWord 30 μ)).bind (fun r1 => if r1 = 0 then (some (.inr μ)) else (((f_R_readsCustomer μ)).bind (fun r2 => some (.inl r2))))
def s_R_readsSetup_158   (μ : Mem) : Option ((Mem) ⊕ (Mem)) :=
  if (μ 13 0 16) = 0 then (if (μ 13 0 14) = 0 then (some (.inr μ)) else (((f_R_readsOwl μ)).bind (fun r1 => some (.inl r1)))) else (some (.inr μ))
def f_R_readsSetup  (μ : Mem) : Option (Mem) :=
  ((f_R_isWord 27 μ)).bind (fun r1 => ((f_R_must r1 1 μ)).bind (fun r2 => ((f_R_goesOn r2.2)).bind (fun r3 => ((f_R_number 0 99999 r3)).bind (fun r4 => chk (inb 0 524) (nm (st3 r4.2 40 0 (0 : Int32).toNatClampNeg r4.1) (fun μ6 => ((f_R_number 1 9 μ6)).bind (fun r7 => chk (inb 1 524) (nm (st3 r7.2 40 0 (1 : Int32).toNatClampNeg r7.1) (fun μ9 => ((f_R_number 0 99 μ9)).bind (fun r10 => chk (inb 2 524) (nm (st3 r10.2 40 0 (2 : Int32).toNatClampNeg r10.1) (fun μ12 => ((f_R_number 0 200 μ12)).bind (fun r13 => chk (inb 3 524) (nm (st3 r13.2 40 0 (3 : Int32).toNatClampNeg r13.1) (fun μ15 => ((f_R_number 0 200 μ15)).bind (fun r16 => chk (inb 4 524) (nm (st3 r16.2 40 0 (4 : Int32).toNatClampNeg r16.1) (fun μ18 => chk (inb 0 524) (chk (inb 15 524) (nm (st3 μ18 40 0 (15 : Int32).toNatClampNeg (μ18 40 0 (0 : Int32).toNatClampNeg)) (fun μ21 => ((f_R_takesSign 59 μ21)).bind (fun r22 => ((f_R_readsEvent r22)).bind (fun r23 => (it (fun (s : Mem) => s_R_readsSetup_106 s) LIM r23).bind (fun q24 => ((f_R_readsPlace q24)).bind (fun r25 => (it (fun (s : Mem) => s_R_readsSetup_126 s) LIM r25).bind (fun q26 => (it (fun (s : Mem) => s_R_readsSetup_142 s) LIM q26).bind (fun q27 => (it (fun (s : Mem) => s_R_readsSetup_158 s) LIM q27).bind (fun q28 => some q28))))))))))))))))))))))))))))
set_option maxRecDepth 100000 in
set_option maxHeartbeats 4000000 in
theorem ws_R_readsSetup_106 {g : GL} {F G : RG} {nx mc ms : Nat} {Post : RO → RM → Prop} (d : Nat)   {μ : Mem}  (hSG : SG g) {o : (Mem) ⊕ (Mem)} (hG : LM vr 535 547 μ F G) (h : s_R_readsSetup_106   μ = some o)
    (kC : ∀ s', o = .inl s' → ∀ G, LM vr 535 547 s' F G → Ev g (d + 8) m_R_readsSetup 106 [some (.inr (0, off 13 0))] [] (G, nx) mc ms Post)
    (kX : ∀ r, o = .inr r → ∀ G, LM vr 535 547 r F G → Ev g (d + 8) m_R_readsSetup 122 [some (.inr (0, off 13 0))] [] (G, nx) mc ms Post)
    : Ev g (d + 8) m_R_readsSetup 106 [some (.inr (0, off 13 0))] [] (G, nx) mc ms Post := by
  unfold s_R_readsSetup_106 at h
  refine ev_aload_n (k0 := 0) rfl d_R_readsSetup_106 ?_
  refine ev_ldcS st_28 d_R_readsSetup_107 ?_
  obtain ⟨r1, hr1, h⟩ := bind_some9 h
  refine Ev.z9 ?_
  refine cv_V (d := d + 7) (mc1 := 0) (ms1 := 0) (mc := mc) (ms := ms) [.inr (1, 28)] hG v_13 rfl lk_ProphecyShopModel_200 (w_R_isWord (d + 1) (by decide) hSG hG hr1) rfl rfl d_R_readsSetup_109 (aft_ro ?_)
  refine Ev.at (pc' := 112) rfl (Ev.cong (st' := [.inl (.int r1)]) ?_ rfl rfl)
  refine ev_if_eq (tgt := 122) (by decide) d_R_readsSetup_112 (fun c => ?_) (fun c => ?_)
  · rw [if_pos c] at h
    exact kX _ (Option.some.inj h).symm G hG
  · rw [if_neg c] at h
    refine ev_aload_n (k0 := 0) rfl d_R_readsSetup_115 ?_
    obtain ⟨r2, hr2, h⟩ := bind_some9 h
    refine Ev.z9 ?_
    refine cv_V (d := d + 7) (mc1 := 0) (ms1 := 0) (mc := mc) (ms := ms) [] hG v_13 rfl lk_ProphecyShopModel_216 (w_R_readsEvent (d + 0) hSG hG hr2) rfl rfl d_R_readsSetup_116 (aft_rw (fun G hG => ?_))
    refine Ev.at (pc' := 119) rfl (Ev.cong (st' := []) ?_ rfl rfl)
    refine ev_goto (tgt := 106) (by decide) d_R_readsSetup_119 ?_
    exact kC _ (Option.some.inj h).symm G hG
set_option maxRecDepth 100000 in
set_option maxHeartbeats 4000000 in
theorem ws_R_readsSetup_126 {g : GL} {F G : RG} {nx mc ms : Nat} {Post : RO → RM → Prop} (d : Nat)   {μ : Mem}  (hSG : SG g) {o : (Mem) ⊕ (Mem)} (hG : LM vr 535 547 μ F G) (h : s_R_readsSetup_126   μ = some o)
    (kC : ∀ s', o = .inl s' → ∀ G, LM vr 535 547 s' F G → Ev g (d + 8) m_R_readsSetup 126 [some (.inr (0, off 13 0))] [] (G, nx) mc ms Post)
    (kX : ∀ r, o = .inr r → ∀ G, LM vr 535 547 r F G → Ev g (d + 8) m_R_readsSetup 142 [some (.inr (0, off 13 0))] [] (G, nx) mc ms Post)
    : Ev g (d + 8) m_R_readsSetup 126 [some (.inr (0, off 13 0))] [] (G, nx) mc ms Post := by
  unfold s_R_readsSetup_126 at h
  refine ev_aload_n (k0 := 0) rfl d_R_readsSetup_126 ?_
  refine ev_ldcS st_29 d_R_readsSetup_127 ?_
  obtain ⟨r1, hr1, h⟩ := bind_some9 h
  refine Ev.z9 ?_
  refine cv_V (d := d + 7) (mc1 := 0) (ms1 := 0) (mc := mc) (ms := ms) [.inr (1, 29)] hG v_13 rfl lk_ProphecyShopModel_200 (w_R_isWord (d + 1) (by decide) hSG hG hr1) rfl rfl d_R_readsSetup_129 (aft_ro ?_)
  refine Ev.at (pc' := 132) rfl (Ev.cong (st' := [.inl (.int r1)]) ?_ rfl rfl)
  refine ev_if_eq (tgt := 142) (by decide) d_R_readsSetup_132 (fun c => ?_) (fun c => ?_)
  · rw [if_pos c] at h
    exact kX _ (Option.some.inj h).symm G hG
  · rw [if_neg c] at h
    refine ev_aload_n (k0 := 0) rfl d_R_readsSetup_135 ?_
    obtain ⟨r2, hr2, h⟩ := bind_some9 h
    refine Ev.z9 ?_
    refine cv_V (d := d + 7) (mc1 := 0) (ms1 := 0) (mc := mc) (ms := ms) [] hG v_13 rfl lk_ProphecyShopModel_219 (w_R_readsPlace (d + 0) hSG hG hr2) rfl rfl d_R_readsSetup_136 (aft_rw (fun G hG => ?_))
    refine Ev.at (pc' := 139) rfl (Ev.cong (st' := []) ?_ rfl rfl)
    refine ev_goto (tgt := 126) (by decide) d_R_readsSetup_139 ?_
    exact kC _ (Option.some.inj h).symm G hG
set_option maxRecDepth 100000 in
set_option maxHeartbeats 4000000 in
theorem ws_R_readsSetup_142 {g : GL} {F G : RG} {nx mc ms : Nat} {Post : RO → RM → Prop} (d : Nat)   {μ : Mem}  (hSG : SG g) {o : (Mem) ⊕ (Mem)} (hG : LM vr 535 547 μ F G) (h : s_R_readsSetup_142   μ = some o)
    (kC : ∀ s', o = .inl s' → ∀ G, LM vr 535 547 s' F G → Ev g (d + 8) m_R_readsSetup 142 [some (.inr (0, off 13 0))] [] (G, nx) mc ms Post)
    (kX : ∀ r, o = .inr r → ∀ G, LM vr 535 547 r F G → Ev g (d + 8) m_R_readsSetup 158 [some (.inr (0, off 13 0))] [] (G, nx) mc ms Post)
    : Ev g (d + 8) m_R_readsSetup 142 [some (.inr (0, off 13 0))] [] (G, nx) mc ms Post := by
  unfold s_R_readsSetup_142 at h
  refine ev_aload_n (k0 := 0) rfl d_R_readsSetup_142 ?_
  refine ev_ldcS st_30 d_R_readsSetup_143 ?_
  obtain ⟨r1, hr1, h⟩ := bind_some9 h
  refine Ev.z9 ?_
  refine cv_V (d := d + 7) (mc1 := 0) (ms1 := 0) (mc := mc) (ms := ms) [.inr (1, 30)] hG v_13 rfl lk_ProphecyShopModel_200 (w_R_isWord (d + 1) (by decide) hSG hG hr1) rfl rfl d_R_readsSetup_145 (aft_ro ?_)
  refine Ev.at (pc' := 148) rfl (Ev.cong (st' := [.inl (.int r1)]) ?_ rfl rfl)
  refine ev_if_eq (tgt := 158) (by decide) d_R_readsSetup_148 (fun c => ?_) (fun c => ?_)
  · rw [if_pos c] at h
    exact kX _ (Option.some.inj h).symm G hG
  · rw [if_neg c] at h
    refine ev_aload_n (k0 := 0) rfl d_R_readsSetup_151 ?_
    obtain ⟨r2, hr2, h⟩ := bind_some9 h
    refine Ev.z9 ?_
    refine cv_V (d := d + 7) (mc1 := 0) (ms1 := 0) (mc := mc) (ms := ms) [] hG v_13 rfl lk_ProphecyShopModel_224 (w_R_readsCustomer (d + 3) hG hr2) rfl rfl d_R_readsSetup_152 (aft_rw (fun G hG => ?_))
    refine Ev.at (pc' := 155) rfl (Ev.cong (st' := []) ?_ rfl rfl)
    refine ev_goto (tgt := 142) (by decide) d_R_readsSetup_155 ?_
    exact kC _ (Option.some.inj h).symm G hG
set_option maxRecDepth 100000 in
set_option maxHeartbeats 4000000 in
theorem ws_R_readsSetup_158 {g : GL} {F G : RG} {nx mc ms : Nat} {Post : RO → RM → Prop} (d : Nat)   {μ : Mem}  (hSG : SG g) {o : (Mem) ⊕ (Mem)} (hG : LM vr 535 547 μ F G) (h : s_R_readsSetup_158   μ = some o)
    (kC : ∀ s', o = .inl s' → ∀ G, LM vr 535 547 s' F G → Ev g (d + 8) m_R_readsSetup 158 [some (.inr (0, off 13 0))] [] (G, nx) mc ms Post)
    (kX : ∀ r, o = .inr r → ∀ G, LM vr 535 547 r F G → Ev g (d + 8) m_R_readsSetup 179 [none] [] (G, nx) mc ms Post)
    : Ev g (d + 8) m_R_readsSetup 158 [some (.inr (0, off 13 0))] [] (G, nx) mc ms Post := by
  unfold s_R_readsSetup_158 at h
  refine ev_aload_n (k0 := 0) rfl d_R_readsSetup_158 ?_
  refine cv_get9 (.inl (.int (μ 13 0 16))) hG v_13 fg_ProphecyShopModel_156_13 rfl rfl d_R_readsSetup_159 ?_
  refine ev_if_ne (tgt := 179) (by decide) d_R_readsSetup_162 (fun c => ?_) (fun c => ?_)
  · rw [if_neg c] at h
    exact Ev.sub (.n LSb.z) (kX _ (Option.some.inj h).symm G hG)
  · rw [if_pos c] at h
    refine ev_aload_n (k0 := 0) rfl d_R_readsSetup_165 ?_
    refine cv_get9 (.inl (.int (μ 13 0 14))) hG v_13 fg_ProphecyShopModel_144_13 rfl rfl d_R_readsSetup_166 ?_
    refine ev_if_eq (tgt := 179) (by decide) d_R_readsSetup_169 (fun c => ?_) (fun c => ?_)
    · rw [if_pos c] at h
      exact Ev.sub (.n LSb.z) (kX _ (Option.some.inj h).symm G hG)
    · rw [if_neg c] at h
      refine ev_aload_n (k0 := 0) rfl d_R_readsSetup_172 ?_
      obtain ⟨r1, hr1, h⟩ := bind_some9 h
      refine Ev.z9 ?_
      refine cv_V (d := d + 7) (mc1 := 0) (ms1 := 0) (mc := mc) (ms := ms) [] hG v_13 rfl lk_ProphecyShopModel_227 (w_R_readsOwl (d + 0) hSG hG hr1) rfl rfl d_R_readsSetup_173 (aft_rw (fun G hG => ?_))
      refine Ev.at (pc' := 176) rfl (Ev.cong (st' := []) ?_ rfl rfl)
      refine ev_goto (tgt := 158) (by decide) d_R_readsSetup_176 ?_
      exact kC _ (Option.some.inj h).symm G hG
set_option maxRecDepth 100000 in
set_option maxHeartbeats 4000000 in
theorem w_R_readsSetup {g : GL} {F G : RG} {nx : Nat} (d : Nat)  {μ : Mem}  (hSG : SG g) {o : Mem} (hG : LM vr 535 547 μ F G) (h : f_R_readsSetup  μ = some o) : Mt g (d + 8) m_R_readsSetup [.inr (0, off 13 0)] (G, nx) 0 0 (pRW vr 535 547 rV o F nx) := by
  unfold f_R_readsSetup at h
  have kE : ∀ v, o = v → pRW vr 535 547 rV o F nx = pRW vr 535 547 rV v F nx := fun v e => by rw [e]
  refine Mt.of9 [some (.inr (0, off 13 0))] (by decide +kernel) rfl rfl rfl rfl ?_
  refine ev_aload_n (k0 := 0) rfl d_R_readsSetup_0 ?_
  refine ev_aload_n (k0 := 0) rfl d_R_readsSetup_1 ?_
  refine ev_ldcS st_27 d_R_readsSetup_2 ?_
  obtain ⟨r1, hr1, h⟩ := bind_some9 h
  refine cv_V (d := d + 7) (mc1 := 0) (ms1 := 0) (mc := 0) (ms := 0) [.inr (1, 27)] hG v_13 rfl lk_ProphecyShopModel_200 (w_R_isWord (d + 1) (by decide) hSG hG hr1) rfl rfl d_R_readsSetup_4 (aft_ro ?_)
  refine Ev.at (pc' := 7) rfl (Ev.cong (st' := [.inl (.int r1), .inr (0, off 13 0)]) ?_ rfl rfl)
  refine cw_iconst 1 d_R_readsSetup_7 rfl ?_
  obtain ⟨r2, hr2, h⟩ := bind_some9 h
  refine cv_V (d := d + 7) (mc1 := 0) (ms1 := 0) (mc := 0) (ms := 0) [.inl (.int r1), .inl (.int 1)] hG v_13 rfl lk_ProphecyShopModel_169 (w_R_must (d + 7) hG hr2) rfl rfl d_R_readsSetup_8 (aft_rw (fun G hG => ?_))
  refine Ev.at (pc' := 11) rfl (Ev.cong (st' := [.inl (.int r2.1)]) ?_ rfl rfl)
  refine ev_pop rfl d_R_readsSetup_11 ?_
  refine ev_aload_n (k0 := 0) rfl d_R_readsSetup_12 ?_
  obtain ⟨r3, hr3, h⟩ := bind_some9 h
  refine cv_V (d := d + 7) (mc1 := 0) (ms1 := 0) (mc := 0) (ms := 0) [] hG v_13 rfl lk_ProphecyShopModel_172 (w_R_goesOn (d + 5) hG hr3) rfl rfl d_R_readsSetup_13 (aft_rw (fun G hG => ?_))
  refine Ev.at (pc' := 16) rfl (Ev.cong (st' := []) ?_ rfl rfl)
  refine ev_aload_n (k0 := 0) rfl d_R_readsSetup_16 ?_
  refine cv_get9 (.inr (0, off 40 0)) hG v_13 fg_ProphecyShopModel_7_13 rfl rfl d_R_readsSetup_17 ?_
  refine cw_iconst 0 d_R_readsSetup_20 rfl ?_
  refine ev_aload_n (k0 := 0) rfl d_R_readsSetup_21 ?_
  refine cw_iconst 0 d_R_readsSetup_22 rfl ?_
  refine ev_ldc (v := 99999) wg_1737 d_R_readsSetup_23 ?_
  obtain ⟨r4, hr4, h⟩ := bind_some9 h
  refine cv_V (d := d + 7) (mc1 := 0) (ms1 := 0) (mc := 0) (ms := 0) [.inl (.int 0), .inl (.int 99999)] hG v_13 rfl lk_ProphecyShopModel_208 (w_R_number (d + 4) hG hr4) rfl rfl d_R_readsSetup_25 (aft_rw (fun G hG => ?_))
  refine Ev.at (pc' := 28) rfl (Ev.cong (st' := [.inl (.int r4.1), .inl (.int 0), .inr (0, off 40 0)]) ?_ rfl rfl)
  obtain ⟨b5, h⟩ := chk_some h
  obtain ⟨μ6, e_μ6, h⟩ := nm_some h
  refine cv_iast hG okR v_40 rfl rfl b5 rfl d_R_readsSetup_28 ?_
  intro G hG; rw [← e_μ6] at hG
  refine ev_aload_n (k0 := 0) rfl d_R_readsSetup_29 ?_
  refine cv_get9 (.inr (0, off 40 0)) hG v_13 fg_ProphecyShopModel_7_13 rfl rfl d_R_readsSetup_30 ?_
  refine cw_iconst 1 d_R_readsSetup_33 rfl ?_
  refine ev_aload_n (k0 := 0) rfl d_R_readsSetup_34 ?_
  refine cw_iconst 1 d_R_readsSetup_35 rfl ?_
  refine cw_bipush 9 d_R_readsSetup_36 rfl ?_
  obtain ⟨r7, hr7, h⟩ := bind_some9 h
  refine cv_V (d := d + 7) (mc1 := 0) (ms1 := 0) (mc := 0) (ms := 0) [.inl (.int 1), .inl (.int 9)] hG v_13 rfl lk_ProphecyShopModel_208 (w_R_number (d + 4) hG hr7) rfl rfl d_R_readsSetup_38 (aft_rw (fun G hG => ?_))
  refine Ev.at (pc' := 41) rfl (Ev.cong (st' := [.inl (.int r7.1), .inl (.int 1), .inr (0, off 40 0)]) ?_ rfl rfl)
  obtain ⟨b8, h⟩ := chk_some h
  obtain ⟨μ9, e_μ9, h⟩ := nm_some h
  refine cv_iast hG okR v_40 rfl rfl b8 rfl d_R_readsSetup_41 ?_
  intro G hG; rw [← e_μ9] at hG
  refine ev_aload_n (k0 := 0) rfl d_R_readsSetup_42 ?_
  refine cv_get9 (.inr (0, off 40 0)) hG v_13 fg_ProphecyShopModel_7_13 rfl rfl d_R_readsSetup_43 ?_
  refine cw_iconst 2 d_R_readsSetup_46 rfl ?_
  refine ev_aload_n (k0 := 0) rfl d_R_readsSetup_47 ?_
  refine cw_iconst 0 d_R_readsSetup_48 rfl ?_
  refine cw_bipush 99 d_R_readsSetup_49 rfl ?_
  obtain ⟨r10, hr10, h⟩ := bind_some9 h
  refine cv_V (d := d + 7) (mc1 := 0) (ms1 := 0) (mc := 0) (ms := 0) [.inl (.int 0), .inl (.int 99)] hG v_13 rfl lk_ProphecyShopModel_208 (w_R_number (d + 4) hG hr10) rfl rfl d_R_readsSetup_51 (aft_rw (fun G hG => ?_))
  refine Ev.at (pc' := 54) rfl (Ev.cong (st' := [.inl (.int r10.1), .inl (.int 2), .inr (0, off 40 0)]) ?_ rfl rfl)
  obtain ⟨b11, h⟩ := chk_some h
  obtain ⟨μ12, e_μ12, h⟩ := nm_some h
  refine cv_iast hG okR v_40 rfl rfl b11 rfl d_R_readsSetup_54 ?_
  intro G hG; rw [← e_μ12] at hG
  refine ev_aload_n (k0 := 0) rfl d_R_readsSetup_55 ?_
  refine cv_get9 (.inr (0, off 40 0)) hG v_13 fg_ProphecyShopModel_7_13 rfl rfl d_R_readsSetup_56 ?_
  refine cw_iconst 3 d_R_readsSetup_59 rfl ?_
  refine ev_aload_n (k0 := 0) rfl d_R_readsSetup_60 ?_
  refine cw_iconst 0 d_R_readsSetup_61 rfl ?_
  refine cw_sipush 200 d_R_readsSetup_62 rfl ?_
  obtain ⟨r13, hr13, h⟩ := bind_some9 h
  refine cv_V (d := d + 7) (mc1 := 0) (ms1 := 0) (mc := 0) (ms := 0) [.inl (.int 0), .inl (.int 200)] hG v_13 rfl lk_ProphecyShopModel_208 (w_R_number (d + 4) hG hr13) rfl rfl d_R_readsSetup_65 (aft_rw (fun G hG => ?_))
  refine Ev.at (pc' := 68) rfl (Ev.cong (st' := [.inl (.int r13.1), .inl (.int 3), .inr (0, off 40 0)]) ?_ rfl rfl)
  obtain ⟨b14, h⟩ := chk_some h
  obtain ⟨μ15, e_μ15, h⟩ := nm_some h
  refine cv_iast hG okR v_40 rfl rfl b14 rfl d_R_readsSetup_68 ?_
  intro G hG; rw [← e_μ15] at hG
  refine ev_aload_n (k0 := 0) rfl d_R_readsSetup_69 ?_
  refine cv_get9 (.inr (0, off 40 0)) hG v_13 fg_ProphecyShopModel_7_13 rfl rfl d_R_readsSetup_70 ?_
  refine cw_iconst 4 d_R_readsSetup_73 rfl ?_
  refine ev_aload_n (k0 := 0) rfl d_R_readsSetup_74 ?_
  refine cw_iconst 0 d_R_readsSetup_75 rfl ?_
  refine cw_sipush 200 d_R_readsSetup_76 rfl ?_
  obtain ⟨r16, hr16, h⟩ := bind_some9 h
  refine cv_V (d := d + 7) (mc1 := 0) (ms1 := 0) (mc := 0) (ms := 0) [.inl (.int 0), .inl (.int 200)] hG v_13 rfl lk_ProphecyShopModel_208 (w_R_number (d + 4) hG hr16) rfl rfl d_R_readsSetup_79 (aft_rw (fun G hG => ?_))
  refine Ev.at (pc' := 82) rfl (Ev.cong (st' := [.inl (.int r16.1), .inl (.int 4), .inr (0, off 40 0)]) ?_ rfl rfl)
  obtain ⟨b17, h⟩ := chk_some h
  obtain ⟨μ18, e_μ18, h⟩ := nm_some h
  refine cv_iast hG okR v_40 rfl rfl b17 rfl d_R_readsSetup_82 ?_
  intro G hG; rw [← e_μ18] at hG
  refine ev_aload_n (k0 := 0) rfl d_R_readsSetup_83 ?_
  refine cv_get9 (.inr (0, off 40 0)) hG v_13 fg_ProphecyShopModel_7_13 rfl rfl d_R_readsSetup_84 ?_
  refine cw_bipush 15 d_R_readsSetup_87 rfl ?_
  refine ev_aload_n (k0 := 0) rfl d_R_readsSetup_89 ?_
  refine cv_get9 (.inr (0, off 40 0)) hG v_13 fg_ProphecyShopModel_7_13 rfl rfl d_R_readsSetup_90 ?_
  refine cw_iconst 0 d_R_readsSetup_93 rfl ?_
  obtain ⟨b19, h⟩ := chk_some h
  refine cv_iald hG v_40 rfl rfl b19 rfl d_R_readsSetup_94 ?_
  obtain ⟨b20, h⟩ := chk_some h
  obtain ⟨μ21, e_μ21, h⟩ := nm_some h
  refine cv_iast hG okR v_40 rfl rfl b20 rfl d_R_readsSetup_95 ?_
  intro G hG; rw [← e_μ21] at hG
  refine ev_aload_n (k0 := 0) rfl d_R_readsSetup_96 ?_
  refine cw_bipush 59 d_R_readsSetup_97 rfl ?_
  refine Ev.at (pc' := 99) rfl ?_
  obtain ⟨r22, hr22, h⟩ := bind_some9 h
  refine cv_V (d := d + 7) (mc1 := 0) (ms1 := 0) (mc := 0) (ms := 0) [.inl (.int 59)] hG v_13 rfl lk_ProphecyShopModel_204 (w_R_takesSign (d + 4) hG hr22) rfl rfl d_R_readsSetup_99 (aft_rw (fun G hG => ?_))
  refine Ev.at (pc' := 102) rfl (Ev.cong (st' := []) ?_ rfl rfl)
  refine ev_aload_n (k0 := 0) rfl d_R_readsSetup_102 ?_
  obtain ⟨r23, hr23, h⟩ := bind_some9 h
  refine cv_V (d := d + 7) (mc1 := 0) (ms1 := 0) (mc := 0) (ms := 0) [] hG v_13 rfl lk_ProphecyShopModel_216 (w_R_readsEvent (d + 0) hSG hG hr23) rfl rfl d_R_readsSetup_103 (aft_rw (fun G hG => ?_))
  refine Ev.at (pc' := 106) rfl (Ev.cong (st' := []) ?_ rfl rfl)
  obtain ⟨q24, hl, h⟩ := bind_some9 h
  refine it_ev (W := fun (s : Mem) => ∀ G, LM vr 535 547 s F G → Ev g (d + 8) m_R_readsSetup 106 [some (.inr (0, off 13 0))] [] (G, nx) 0 0 (pRW vr 535 547 rV o F nx)) (X := fun z => z = q24) rfl (fun s9 o9 hs kC9 kX9 => ?_) LIM _ hl G hG
  intro G hG
  refine ws_R_readsSetup_106 d hSG hG hs kC9 (fun r_ e G hG => ?_)
  · obtain rfl := (kX9 _ e).symm
    refine ev_aload_n (k0 := 0) rfl d_R_readsSetup_122 ?_
    obtain ⟨r25, hr25, h⟩ := bind_some9 h
    refine cv_V (d := d + 7) (mc1 := 0) (ms1 := 0) (mc := 0) (ms := 0) [] hG v_13 rfl lk_ProphecyShopModel_219 (w_R_readsPlace (d + 0) hSG hG hr25) rfl rfl d_R_readsSetup_123 (aft_rw (fun G hG => ?_))
    refine Ev.at (pc' := 126) rfl (Ev.cong (st' := []) ?_ rfl rfl)
    obtain ⟨q26, hl, h⟩ := bind_some9 h
    refine it_ev (W := fun (s : Mem) => ∀ G, LM vr 535 547 s F G → Ev g (d + 8) m_R_readsSetup 126 [some (.inr (0, off 13 0))] [] (G, nx) 0 0 (pRW vr 535 547 rV o F nx)) (X := fun z => z = q26) rfl (fun s9 o9 hs kC9 kX9 => ?_) LIM _ hl G hG
    intro G hG
    refine ws_R_readsSetup_126 d hSG hG hs kC9 (fun r_ e G hG => ?_)
    · obtain rfl := (kX9 _ e).symm
      obtain ⟨q27, hl, h⟩ := bind_some9 h
      refine it_ev (W := fun (s : Mem) => ∀ G, LM vr 535 547 s F G → Ev g (d + 8) m_R_readsSetup 142 [some (.inr (0, off 13 0))] [] (G, nx) 0 0 (pRW vr 535 547 rV o F nx)) (X := fun z => z = q27) rfl (fun s9 o9 hs kC9 kX9 => ?_) LIM _ hl G hG
      intro G hG
      refine ws_R_readsSetup_142 d hSG hG hs kC9 (fun r_ e G hG => ?_)
      · obtain rfl := (kX9 _ e).symm
        obtain ⟨q28, hl, h⟩ := bind_some9 h
        refine it_ev (W := fun (s : Mem) => ∀ G, LM vr 535 547 s F G → Ev g (d + 8) m_R_readsSetup 158 [some (.inr (0, off 13 0))] [] (G, nx) 0 0 (pRW vr 535 547 rV o F nx)) (X := fun z => z = q28) rfl (fun s9 o9 hs kC9 kX9 => ?_) LIM _ hl G hG
        intro G hG
        refine ws_R_readsSetup_158 d hSG hG hs kC9 (fun r_ e G hG => ?_)
        · obtain rfl := (kX9 _ e).symm
          have hP := kE _ (Option.some.inj h).symm
          exact ev_return (st := []) rfl d_R_readsSetup_179 (by rw [hP]; exact ⟨rfl, hG, rfl⟩)

/-- ProphecyShopModel.load -/
def s_R_load_7  (x1 : Int32) (μ : Mem) : Option ((Int32 × Mem) ⊕ (Mem)) :=
  if (524 : Int32) ≤ x1 then (some (.inr μ)) else (chk (inb x1 524) (chk (inb x1 524) (nm (st3 μ 42 0 x1.toNatClampNeg (μ 40 0 x1.toNatClampNeg)) (fun μ3 => chk (inb x1 524) (nm (st3 μ3 40 0 x1.toNatClampNeg 0) (fun μ5 => some (.inl ((x1 + 1, μ5)))))))))
def s_R_load_56  (x1 : Int32) (μ : Mem) : Option ((Int32 × Mem) ⊕ (Mem)) :=
  if (524 : Int32) ≤ x1 then (some (.inr μ)) else (chk (inb x1 524) (chk (inb x1 524) (nm (st3 μ 40 0 x1.toNatClampNeg (μ 42 0 x1.toNatClampNeg)) (fun μ3 => some (.inl ((x1 + 1, μ3)))))))
def f_R_load  (μ : Mem) : Option (Int32 × Mem) :=
  nm (st3 μ 13 0 7 0) (fun μ1 => (it (fun (s : Int32 × Mem) => s_R_load_7 s.1 s.2) LIM ((0, μ1))).bind (fun q2 => ((f_R_starts q2)).bind (fun r3 => ((f_R_readsSetup r3)).bind (fun r4 => ((f_R_isWhole r4)).bind (fun r5 => if r5.1 = 0 then ((it (fun (s : Int32 × Mem) => s_R_load_56 s.1 s.2) LIM ((0, r5.2))).bind (fun q11 => some ((q11 13 0 10, q11)))) else (nm (st3 r5.2 13 0 6 0) (fun μ6 => chk (inb 0 2) (nm (st3 μ6 45 0 (0 : Int32).toNatClampNeg 0) (fun μ8 => chk (inb 1 2) (nm (st3 μ8 45 0 (1 : Int32).toNatClampNeg 0) (fun μ10 => some ((0, μ10)))))))))))))
set_option maxRecDepth 100000 in
set_option maxHeartbeats 4000000 in
theorem ws_R_load_7 {g : GL} {F G : RG} {nx mc ms : Nat} {Post : RO → RM → Prop} (d : Nat)  {x1 : Int32} {μ : Mem}  (hSG : SG g) {o : (Int32 × Mem) ⊕ (Mem)} (hG : LM vr 535 547 μ F G) (h : s_R_load_7  x1 μ = some o)
    (kC : ∀ s', o = .inl s' → ∀ G, LM vr 535 547 s'.2 F G → Ev g (d + 9) m_R_load 7 [some (.inr (0, off 13 0)), some (.inl (.int s'.1))] [] (G, nx) mc ms Post)
    (kX : ∀ r, o = .inr r → ∀ G, LM vr 535 547 r F G → Ev g (d + 9) m_R_load 39 [some (.inr (0, off 13 0)), none] [] (G, nx) mc ms Post)
    : Ev g (d + 9) m_R_load 7 [some (.inr (0, off 13 0)), some (.inl (.int x1))] [] (G, nx) mc ms Post := by
  unfold s_R_load_7 at h
  refine ev_iload_n (k0 := 1) rfl d_R_load_7 ?_
  refine cw_sipush 524 d_R_load_8 rfl ?_
  refine ev_icmp_ge (tgt := 39) (by decide) d_R_load_11 (fun c => ?_) (fun c => ?_)
  · rw [if_pos c] at h
    exact Ev.sub (.s (.n LSb.z)) (kX _ (Option.some.inj h).symm G hG)
  · rw [if_neg c] at h
    refine ev_aload_n (k0 := 0) rfl d_R_load_14 ?_
    refine cv_get9 (.inr (0, off 42 0)) hG v_13 fg_ProphecyShopModel_16_13 rfl rfl d_R_load_15 ?_
    refine ev_iload_n (k0 := 1) rfl d_R_load_18 ?_
    refine ev_aload_n (k0 := 0) rfl d_R_load_19 ?_
    refine cv_get9 (.inr (0, off 40 0)) hG v_13 fg_ProphecyShopModel_7_13 rfl rfl d_R_load_20 ?_
    refine ev_iload_n (k0 := 1) rfl d_R_load_23 ?_
    obtain ⟨b1, h⟩ := chk_some h
    refine cv_iald hG v_40 rfl rfl b1 rfl d_R_load_24 ?_
    obtain ⟨b2, h⟩ := chk_some h
    obtain ⟨μ3, e_μ3, h⟩ := nm_some h
    refine cv_iast hG okR v_42 rfl rfl b2 rfl d_R_load_25 ?_
    intro G hG; rw [← e_μ3] at hG
    refine ev_aload_n (k0 := 0) rfl d_R_load_26 ?_
    refine cv_get9 (.inr (0, off 40 0)) hG v_13 fg_ProphecyShopModel_7_13 rfl rfl d_R_load_27 ?_
    refine ev_iload_n (k0 := 1) rfl d_R_load_30 ?_
    refine Ev.at (pc' := 31) rfl ?_
    refine cw_iconst 0 d_R_load_31 rfl ?_
    obtain ⟨b4, h⟩ := chk_some h
    obtain ⟨μ5, e_μ5, h⟩ := nm_some h
    refine cv_iast hG okR v_40 rfl rfl b4 rfl d_R_load_32 ?_
    intro G hG; rw [← e_μ5] at hG
    refine cw_iincN 1 1 [some (.inr (0, off 13 0)), some (.inl (.int (x1 + 1)))] d_R_load_33 rfl rfl rfl rfl rfl ?_
    refine ev_goto (tgt := 7) (by decide) d_R_load_36 ?_
    exact kC _ (Option.some.inj h).symm G hG
set_option maxRecDepth 100000 in
set_option maxHeartbeats 4000000 in
theorem ws_R_load_56 {g : GL} {F G : RG} {nx mc ms : Nat} {Post : RO → RM → Prop} (d : Nat)  {x1 : Int32} {μ : Mem}  (hSG : SG g) {o : (Int32 × Mem) ⊕ (Mem)} (hG : LM vr 535 547 μ F G) (h : s_R_load_56  x1 μ = some o)
    (kC : ∀ s', o = .inl s' → ∀ G, LM vr 535 547 s'.2 F G → Ev g (d + 9) m_R_load 56 [some (.inr (0, off 13 0)), some (.inl (.int s'.1))] [] (G, nx) mc ms Post)
    (kX : ∀ r, o = .inr r → ∀ G, LM vr 535 547 r F G → Ev g (d + 9) m_R_load 81 [some (.inr (0, off 13 0)), none] [] (G, nx) mc ms Post)
    : Ev g (d + 9) m_R_load 56 [some (.inr (0, off 13 0)), some (.inl (.int x1))] [] (G, nx) mc ms Post := by
  unfold s_R_load_56 at h
  refine ev_iload_n (k0 := 1) rfl d_R_load_56 ?_
  refine cw_sipush 524 d_R_load_57 rfl ?_
  refine ev_icmp_ge (tgt := 81) (by decide) d_R_load_60 (fun c => ?_) (fun c => ?_)
  · rw [if_pos c] at h
    exact Ev.sub (.s (.n LSb.z)) (kX _ (Option.some.inj h).symm G hG)
  · rw [if_neg c] at h
    refine ev_aload_n (k0 := 0) rfl d_R_load_63 ?_
    refine cv_get9 (.inr (0, off 40 0)) hG v_13 fg_ProphecyShopModel_7_13 rfl rfl d_R_load_64 ?_
    refine ev_iload_n (k0 := 1) rfl d_R_load_67 ?_
    refine ev_aload_n (k0 := 0) rfl d_R_load_68 ?_
    refine cv_get9 (.inr (0, off 42 0)) hG v_13 fg_ProphecyShopModel_16_13 rfl rfl d_R_load_69 ?_
    refine ev_iload_n (k0 := 1) rfl d_R_load_72 ?_
    obtain ⟨b1, h⟩ := chk_some h
    refine cv_iald hG v_42 rfl rfl b1 rfl d_R_load_73 ?_
    obtain ⟨b2, h⟩ := chk_some h
    obtain ⟨μ3, e_μ3, h⟩ := nm_some h
    refine cv_iast hG okR v_40 rfl rfl b2 rfl d_R_load_74 ?_
    intro G hG; rw [← e_μ3] at hG
    refine cw_iincN 1 1 [some (.inr (0, off 13 0)), some (.inl (.int (x1 + 1)))] d_R_load_75 rfl rfl rfl rfl rfl ?_
    refine ev_goto (tgt := 56) (by decide) d_R_load_78 ?_
    exact kC _ (Option.some.inj h).symm G hG
set_option maxRecDepth 100000 in
set_option maxHeartbeats 4000000 in
theorem w_R_load {g : GL} {F G : RG} {nx : Nat} (d : Nat)  {μ : Mem}  (hSG : SG g) {o : Int32 × Mem} (hG : LM vr 535 547 μ F G) (h : f_R_load  μ = some o) : Mt g (d + 9) m_R_load [.inr (0, off 13 0)] (G, nx) 0 0 (pRW vr 535 547 (rI o.1) o.2 F nx) := by
  unfold f_R_load at h
  have kE : ∀ v, o = v → pRW vr 535 547 (rI o.1) o.2 F nx = pRW vr 535 547 (rI v.1) v.2 F nx := fun v e => by rw [e]
  refine Mt.of9 [some (.inr (0, off 13 0)), none] (by decide +kernel) rfl rfl rfl rfl ?_
  refine ev_aload_n (k0 := 0) rfl d_R_load_0 ?_
  refine cw_iconst 0 d_R_load_1 rfl ?_
  obtain ⟨μ1, e_μ1, h⟩ := nm_some h
  refine cv_put (.inl (.int 0)) 0 hG okR v_13 fl_ProphecyShopModel_73_13 rfl rfl okv_int d_R_load_2 ?_
  intro G hG; rw [← e_μ1] at hG
  refine cw_iconst 0 d_R_load_5 rfl ?_
  refine cw_istoreN_n 1 0 rfl [some (.inr (0, off 13 0)), some (.inl (.int 0))] d_R_load_6 rfl rfl rfl ?_
  obtain ⟨q2, hl, h⟩ := bind_some9 h
  refine it_ev (W := fun (s : Int32 × Mem) => ∀ G, LM vr 535 547 s.2 F G → Ev g (d + 9) m_R_load 7 [some (.inr (0, off 13 0)), some (.inl (.int s.1))] [] (G, nx) 0 0 (pRW vr 535 547 (rI o.1) o.2 F nx)) (X := fun z => z = q2) rfl (fun s9 o9 hs kC9 kX9 => ?_) LIM _ hl G hG
  intro G hG
  refine ws_R_load_7 d hSG hG hs kC9 (fun r_ e G hG => ?_)
  · obtain rfl := (kX9 _ e).symm
    refine ev_aload_n (k0 := 0) rfl d_R_load_39 ?_
    obtain ⟨r3, hr3, h⟩ := bind_some9 h
    refine cv_V (d := d + 8) (mc1 := 0) (ms1 := 0) (mc := 0) (ms := 0) [] hG v_13 rfl lk_ProphecyShopModel_67 (w_R_starts (d + 6) hG hr3) rfl rfl d_R_load_40 (aft_rw (fun G hG => ?_))
    refine Ev.at (pc' := 43) rfl (Ev.cong (st' := []) ?_ rfl rfl)
    refine ev_aload_n (k0 := 0) rfl d_R_load_43 ?_
    obtain ⟨r4, hr4, h⟩ := bind_some9 h
    refine cv_V (d := d + 8) (mc1 := 0) (ms1 := 0) (mc := 0) (ms := 0) [] hG v_13 rfl lk_ProphecyShopModel_70 (w_R_readsSetup (d + 0) hSG hG hr4) rfl rfl d_R_load_44 (aft_rw (fun G hG => ?_))
    refine Ev.at (pc' := 47) rfl (Ev.cong (st' := []) ?_ rfl rfl)
    refine ev_aload_n (k0 := 0) rfl d_R_load_47 ?_
    obtain ⟨r5, hr5, h⟩ := bind_some9 h
    refine cv_V (d := d + 8) (mc1 := 0) (ms1 := 0) (mc := 0) (ms := 0) [] hG v_13 rfl lk_ProphecyShopModel_230 (w_R_isWhole (d + 8) hG hr5) rfl rfl d_R_load_48 (aft_rw (fun G hG => ?_))
    refine Ev.at (pc' := 51) rfl (Ev.cong (st' := [.inl (.int r5.1)]) ?_ rfl rfl)
    refine ev_if_ne (tgt := 86) (by decide) d_R_load_51 (fun c => ?_) (fun c => ?_)
    · rw [if_neg c] at h
      refine ev_aload_n (k0 := 0) rfl d_R_load_86 ?_
      refine cw_iconst 0 d_R_load_87 rfl ?_
      obtain ⟨μ6, e_μ6, h⟩ := nm_some h
      refine cv_put (.inl (.int 0)) 0 hG okR v_13 fl_ProphecyShopModel_233_13 rfl rfl okv_int d_R_load_88 ?_
      intro G hG; rw [← e_μ6] at hG
      refine ev_aload_n (k0 := 0) rfl d_R_load_91 ?_
      refine cv_get9 (.inr (0, off 45 0)) hG v_13 fg_ProphecyShopModel_25_13 rfl rfl d_R_load_92 ?_
      refine cw_iconst 0 d_R_load_95 rfl ?_
      refine cw_iconst 0 d_R_load_96 rfl ?_
      obtain ⟨b7, h⟩ := chk_some h
      obtain ⟨μ8, e_μ8, h⟩ := nm_some h
      refine cv_zast hG okR v_45 rfl rfl b7 rfl rfl d_R_load_97 ?_
      intro G hG; rw [← e_μ8] at hG
      refine ev_aload_n (k0 := 0) rfl d_R_load_98 ?_
      refine cv_get9 (.inr (0, off 45 0)) hG v_13 fg_ProphecyShopModel_25_13 rfl rfl d_R_load_99 ?_
      refine cw_iconst 1 d_R_load_102 rfl ?_
      refine Ev.at (pc' := 103) rfl ?_
      refine cw_iconst 0 d_R_load_103 rfl ?_
      obtain ⟨b9, h⟩ := chk_some h
      obtain ⟨μ10, e_μ10, h⟩ := nm_some h
      refine cv_zast hG okR v_45 rfl rfl b9 rfl rfl d_R_load_104 ?_
      intro G hG; rw [← e_μ10] at hG
      refine cw_iconst 0 d_R_load_105 rfl ?_
      have hP := kE _ (Option.some.inj h).symm
      exact ev_ireturn (st := []) rfl rfl d_R_load_106 (by rw [hP]; exact ⟨rfl, hG, rfl⟩)
    · rw [if_pos c] at h
      refine cw_iconst 0 d_R_load_54 rfl ?_
      refine cw_istoreN_n 1 0 rfl [some (.inr (0, off 13 0)), some (.inl (.int 0))] d_R_load_55 rfl rfl rfl ?_
      obtain ⟨q11, hl, h⟩ := bind_some9 h
      refine it_ev (W := fun (s : Int32 × Mem) => ∀ G, LM vr 535 547 s.2 F G → Ev g (d + 9) m_R_load 56 [some (.inr (0, off 13 0)), some (.inl (.int s.1))] [] (G, nx) 0 0 (pRW vr 535 547 (rI o.1) o.2 F nx)) (X := fun z => z = q11) rfl (fun s9 o9 hs kC9 kX9 => ?_) LIM _ hl G hG
      intro G hG
      refine ws_R_load_56 d hSG hG hs kC9 (fun r_ e G hG => ?_)
      · obtain rfl := (kX9 _ e).symm
        refine ev_aload_n (k0 := 0) rfl d_R_load_81 ?_
        refine cv_get9 (.inl (.int (q11 13 0 10))) hG v_13 fg_ProphecyShopModel_132_13 rfl rfl d_R_load_82 ?_
        have hP := kE _ (Option.some.inj h).symm
        exact ev_ireturn (st := []) rfl rfl d_R_load_85 (by rw [hP]; exact ⟨rfl, hG, rfl⟩)

/-- ProphecyShopModel.meanPrice -/
def s_R_meanPrice_9  (x1 : Int32) (x2 : Int32) (μ : Mem) : Option ((Int32 × Int32) ⊕ (Int32)) :=
  chk (inb 10 524) (if (μ 40 0 (10 : Int32).toNatClampNeg) ≤ x2 then (some (.inr x1)) else (((f_R_of x2 6 μ)).bind (fun r2 => nm (x1 + r2 : Int32) (fun v3 => some (.inl ((v3, x2 + 1)))))))
def f_R_meanPrice  (μ : Mem) : Option (UInt64 × Mem) :=
  nm (st3 μ 13 0 7 0) (fun μ1 => (it (fun (s : Int32 × Int32) => s_R_meanPrice_9 s.1 s.2 μ1) LIM ((0, 0))).bind (fun q2 => chk (inb 10 524) (if (μ1 40 0 (10 : Int32).toNatClampNeg) = 0 then (some ((FP.dconst0, μ1))) else (chk (inb 10 524) (chk (okD9 (FP.ddiv (FP.i2d q2) (FP.i2d (μ1 40 0 (10 : Int32).toNatClampNeg)))) (some ((FP.ddiv (FP.i2d q2) (FP.i2d (μ1 40 0 (10 : Int32).toNatClampNeg)), μ1))))))))
set_option maxRecDepth 100000 in
set_option maxHeartbeats 4000000 in
theorem ws_R_meanPrice_9 {g : GL} {F G : RG} {nx mc ms : Nat} {Post : RO → RM → Prop} (d : Nat)  {x1 : Int32} {x2 : Int32} {μ : Mem}   {o : (Int32 × Int32) ⊕ (Int32)} (hG : LM vr 535 547 μ F G) (h : s_R_meanPrice_9  x1 x2 μ = some o)
    (kC : ∀ s', o = .inl s' → Ev g (d + 1) m_R_meanPrice 9 [some (.inr (0, off 13 0)), some (.inl (.int s'.1)), some (.inl (.int s'.2))] [] (G, nx) mc ms Post)
    (kX : ∀ r, o = .inr r → Ev g (d + 1) m_R_meanPrice 36 [some (.inr (0, off 13 0)), some (.inl (.int r)), none] [] (G, nx) mc ms Post)
    : Ev g (d + 1) m_R_meanPrice 9 [some (.inr (0, off 13 0)), some (.inl (.int x1)), some (.inl (.int x2))] [] (G, nx) mc ms Post := by
  unfold s_R_meanPrice_9 at h
  refine ev_iload_n (k0 := 2) rfl d_R_meanPrice_9 ?_
  refine ev_aload_n (k0 := 0) rfl d_R_meanPrice_10 ?_
  refine cv_get9 (.inr (0, off 40 0)) hG v_13 fg_ProphecyShopModel_7_13 rfl rfl d_R_meanPrice_11 ?_
  refine cw_bipush 10 d_R_meanPrice_14 rfl ?_
  obtain ⟨b1, h⟩ := chk_some h
  refine cv_iald hG v_40 rfl rfl b1 rfl d_R_meanPrice_16 ?_
  refine ev_icmp_ge (tgt := 36) (by decide) d_R_meanPrice_17 (fun c => ?_) (fun c => ?_)
  · rw [if_pos c] at h
    exact Ev.sub (.s (.s (.n LSb.z))) (kX _ (Option.some.inj h).symm)
  · rw [if_neg c] at h
    refine ev_iload_n (k0 := 1) rfl d_R_meanPrice_20 ?_
    refine ev_aload_n (k0 := 0) rfl d_R_meanPrice_21 ?_
    refine ev_iload_n (k0 := 2) rfl d_R_meanPrice_22 ?_
    refine cw_bipush 6 d_R_meanPrice_23 rfl ?_
    obtain ⟨r2, hr2, h⟩ := bind_some9 h
    refine Ev.z9 ?_
    refine cv_V (d := d + 0) (mc1 := 0) (ms1 := 0) (mc := mc) (ms := ms) [.inl (.int x2), .inl (.int 6)] hG v_13 rfl lk_ProphecyShopModel_84 (w_R_of (d + 0) hG hr2) rfl rfl d_R_meanPrice_25 (aft_ro ?_)
    refine Ev.at (pc' := 28) rfl (Ev.cong (st' := [.inl (.int r2), .inl (.int x1)]) ?_ rfl rfl)
    refine ev_iadd d_R_meanPrice_28 ?_
    obtain ⟨v3, e_v3, h⟩ := nm_some h
    refine cw_istoreN_n 1 v3 e_v3 [some (.inr (0, off 13 0)), some (.inl (.int v3)), some (.inl (.int x2))] d_R_meanPrice_29 rfl rfl rfl ?_
    refine cw_iincN 2 1 [some (.inr (0, off 13 0)), some (.inl (.int v3)), some (.inl (.int (x2 + 1)))] d_R_meanPrice_30 rfl rfl rfl rfl rfl ?_
    refine ev_goto (tgt := 9) (by decide) d_R_meanPrice_33 ?_
    exact kC _ (Option.some.inj h).symm
set_option maxRecDepth 100000 in
set_option maxHeartbeats 4000000 in
theorem w_R_meanPrice {g : GL} {F G : RG} {nx : Nat} (d : Nat)  {μ : Mem}   {o : UInt64 × Mem} (hG : LM vr 535 547 μ F G) (h : f_R_meanPrice  μ = some o) : Mt g (d + 1) m_R_meanPrice [.inr (0, off 13 0)] (G, nx) 0 0 (pRW vr 535 547 (rD o.1) o.2 F nx) := by
  unfold f_R_meanPrice at h
  have kE : ∀ v, o = v → pRW vr 535 547 (rD o.1) o.2 F nx = pRW vr 535 547 (rD v.1) v.2 F nx := fun v e => by rw [e]
  refine Mt.of9 [some (.inr (0, off 13 0)), none, none] (by decide +kernel) rfl rfl rfl rfl ?_
  refine ev_aload_n (k0 := 0) rfl d_R_meanPrice_0 ?_
  refine cw_iconst 0 d_R_meanPrice_1 rfl ?_
  obtain ⟨μ1, e_μ1, h⟩ := nm_some h
  refine cv_put (.inl (.int 0)) 0 hG okR v_13 fl_ProphecyShopModel_73_13 rfl rfl okv_int d_R_meanPrice_2 ?_
  intro G hG; rw [← e_μ1] at hG
  refine cw_iconst 0 d_R_meanPrice_5 rfl ?_
  refine cw_istoreN_n 1 0 rfl [some (.inr (0, off 13 0)), some (.inl (.int 0)), none] d_R_meanPrice_6 rfl rfl rfl ?_
  refine cw_iconst 0 d_R_meanPrice_7 rfl ?_
  refine cw_istoreN_n 2 0 rfl [some (.inr (0, off 13 0)), some (.inl (.int 0)), some (.inl (.int 0))] d_R_meanPrice_8 rfl rfl rfl ?_
  obtain ⟨q2, hl, h⟩ := bind_some9 h
  refine it_ev (W := fun (s : Int32 × Int32) => Ev g (d + 1) m_R_meanPrice 9 [some (.inr (0, off 13 0)), some (.inl (.int s.1)), some (.inl (.int s.2))] [] (G, nx) 0 0 (pRW vr 535 547 (rD o.1) o.2 F nx)) (X := fun z => z = q2) rfl (fun s9 o9 hs kC9 kX9 => ?_) LIM _ hl
  refine ws_R_meanPrice_9 d  hG hs kC9 (fun r_ e => ?_)
  · obtain rfl := (kX9 _ e).symm
    refine ev_aload_n (k0 := 0) rfl d_R_meanPrice_36 ?_
    refine cv_get9 (.inr (0, off 40 0)) hG v_13 fg_ProphecyShopModel_7_13 rfl rfl d_R_meanPrice_37 ?_
    refine cw_bipush 10 d_R_meanPrice_40 rfl ?_
    obtain ⟨b3, h⟩ := chk_some h
    refine cv_iald hG v_40 rfl rfl b3 rfl d_R_meanPrice_42 ?_
    refine ev_if_ne (tgt := 50) (by decide) d_R_meanPrice_43 (fun c => ?_) (fun c => ?_)
    · rw [if_neg c] at h
      refine ev_iload_n (k0 := 1) rfl d_R_meanPrice_50 ?_
      refine ev_i2d d_R_meanPrice_51 ?_
      refine ev_aload_n (k0 := 0) rfl d_R_meanPrice_52 ?_
      refine cv_get9 (.inr (0, off 40 0)) hG v_13 fg_ProphecyShopModel_7_13 rfl rfl d_R_meanPrice_53 ?_
      refine cw_bipush 10 d_R_meanPrice_56 rfl ?_
      obtain ⟨b4, h⟩ := chk_some h
      refine cv_iald hG v_40 rfl rfl b4 rfl d_R_meanPrice_58 ?_
      refine ev_i2d d_R_meanPrice_59 ?_
      obtain ⟨b5, h⟩ := chk_some h
      refine ev_ddiv (okD9_n b5) d_R_meanPrice_60 ?_
      have hP := kE _ (Option.some.inj h).symm
      exact ev_dreturn (st := []) rfl d_R_meanPrice_61 (by rw [hP]; exact ⟨rfl, hG, rfl⟩)
    · rw [if_pos c] at h
      refine ev_dconst0 d_R_meanPrice_46 ?_
      refine ev_goto (tgt := 61) (by decide) d_R_meanPrice_47 ?_
      have hP := kE _ (Option.some.inj h).symm
      exact ev_dreturn (st := []) rfl d_R_meanPrice_61 (by rw [hP]; exact ⟨rfl, hG, rfl⟩)

/-- ProphecyShopModel.owlCoins -/
def f_R_owlCoins (x1 : Int32) (μ : Mem) : Option (Int32 × Mem) :=
  ((f_R_askedOwl x1 2 μ)).bind (fun r1 => some ((r1.1, r1.2)))
set_option maxRecDepth 100000 in
set_option maxHeartbeats 4000000 in
theorem w_R_owlCoins {g : GL} {F G : RG} {nx : Nat} (d : Nat) {x1 : Int32} {μ : Mem}   {o : Int32 × Mem} (hG : LM vr 535 547 μ F G) (h : f_R_owlCoins x1 μ = some o) : Mt g (d + 2) m_R_owlCoins [.inr (0, off 13 0), .inl (.int x1)] (G, nx) 0 0 (pRW vr 535 547 (rI o.1) o.2 F nx) := by
  unfold f_R_owlCoins at h
  have kE : ∀ v, o = v → pRW vr 535 547 (rI o.1) o.2 F nx = pRW vr 535 547 (rI v.1) v.2 F nx := fun v e => by rw [e]
  refine Mt.of9 [some (.inr (0, off 13 0)), some (.inl (.int x1))] (by decide +kernel) rfl rfl rfl rfl ?_
  refine ev_aload_n (k0 := 0) rfl d_R_owlCoins_0 ?_
  refine ev_iload_n (k0 := 1) rfl d_R_owlCoins_1 ?_
  refine cw_iconst 2 d_R_owlCoins_2 rfl ?_
  obtain ⟨r1, hr1, h⟩ := bind_some9 h
  refine cv_V (d := d + 1) (mc1 := 0) (ms1 := 0) (mc := 0) (ms := 0) [.inl (.int x1), .inl (.int 2)] hG v_13 rfl lk_ProphecyShopModel_355 (w_R_askedOwl (d + 0) hG hr1) rfl rfl d_R_owlCoins_3 (aft_rw (fun G hG => ?_))
  refine Ev.at (pc' := 6) rfl (Ev.cong (st' := [.inl (.int r1.1)]) ?_ rfl rfl)
  have hP := kE _ (Option.some.inj h).symm
  exact ev_ireturn (st := []) rfl rfl d_R_owlCoins_6 (by rw [hP]; exact ⟨rfl, hG, rfl⟩)

/-- ProphecyShopModel.owlDays -/
def f_R_owlDays (x1 : Int32) (μ : Mem) : Option (Int32 × Mem) :=
  ((f_R_askedOwl x1 1 μ)).bind (fun r1 => some ((r1.1, r1.2)))
set_option maxRecDepth 100000 in
set_option maxHeartbeats 4000000 in
theorem w_R_owlDays {g : GL} {F G : RG} {nx : Nat} (d : Nat) {x1 : Int32} {μ : Mem}   {o : Int32 × Mem} (hG : LM vr 535 547 μ F G) (h : f_R_owlDays x1 μ = some o) : Mt g (d + 2) m_R_owlDays [.inr (0, off 13 0), .inl (.int x1)] (G, nx) 0 0 (pRW vr 535 547 (rI o.1) o.2 F nx) := by
  unfold f_R_owlDays at h
  have kE : ∀ v, o = v → pRW vr 535 547 (rI o.1) o.2 F nx = pRW vr 535 547 (rI v.1) v.2 F nx := fun v e => by rw [e]
  refine Mt.of9 [some (.inr (0, off 13 0)), some (.inl (.int x1))] (by decide +kernel) rfl rfl rfl rfl ?_
  refine ev_aload_n (k0 := 0) rfl d_R_owlDays_0 ?_
  refine ev_iload_n (k0 := 1) rfl d_R_owlDays_1 ?_
  refine cw_iconst 1 d_R_owlDays_2 rfl ?_
  obtain ⟨r1, hr1, h⟩ := bind_some9 h
  refine cv_V (d := d + 1) (mc1 := 0) (ms1 := 0) (mc := 0) (ms := 0) [.inl (.int x1), .inl (.int 1)] hG v_13 rfl lk_ProphecyShopModel_355 (w_R_askedOwl (d + 0) hG hr1) rfl rfl d_R_owlDays_3 (aft_rw (fun G hG => ?_))
  refine Ev.at (pc' := 6) rfl (Ev.cong (st' := [.inl (.int r1.1)]) ?_ rfl rfl)
  have hP := kE _ (Option.some.inj h).symm
  exact ev_ireturn (st := []) rfl rfl d_R_owlDays_6 (by rw [hP]; exact ⟨rfl, hG, rfl⟩)

/-- ProphecyShopModel.placeCount -/
def f_R_placeCount  (μ : Mem) : Option (Int32 × Mem) :=
  ((f_R_tells 7 μ)).bind (fun r1 => some ((r1.1, r1.2)))
set_option maxRecDepth 100000 in
set_option maxHeartbeats 4000000 in
theorem w_R_placeCount {g : GL} {F G : RG} {nx : Nat} (d : Nat)  {μ : Mem}   {o : Int32 × Mem} (hG : LM vr 535 547 μ F G) (h : f_R_placeCount  μ = some o) : Mt g (d + 1) m_R_placeCount [.inr (0, off 13 0)] (G, nx) 0 0 (pRW vr 535 547 (rI o.1) o.2 F nx) := by
  unfold f_R_placeCount at h
  have kE : ∀ v, o = v → pRW vr 535 547 (rI o.1) o.2 F nx = pRW vr 535 547 (rI v.1) v.2 F nx := fun v e => by rw [e]
  refine Mt.of9 [some (.inr (0, off 13 0))] (by decide +kernel) rfl rfl rfl rfl ?_
  refine ev_aload_n (k0 := 0) rfl d_R_placeCount_0 ?_
  refine cw_bipush 7 d_R_placeCount_1 rfl ?_
  obtain ⟨r1, hr1, h⟩ := bind_some9 h
  refine cv_V (d := d + 0) (mc1 := 0) (ms1 := 0) (mc := 0) (ms := 0) [.inl (.int 7)] hG v_13 rfl lk_ProphecyShopModel_324 (w_R_tells (d + 0) hG hr1) rfl rfl d_R_placeCount_3 (aft_rw (fun G hG => ?_))
  refine Ev.at (pc' := 6) rfl (Ev.cong (st' := [.inl (.int r1.1)]) ?_ rfl rfl)
  have hP := kE _ (Option.some.inj h).symm
  exact ev_ireturn (st := []) rfl rfl d_R_placeCount_6 (by rw [hP]; exact ⟨rfl, hG, rfl⟩)

/-- ProphecyShopModel.placeInQueue -/
def f_R_placeInQueue (x1 : Int32) (μ : Mem) : Option (Int32 × Mem) :=
  nm (st3 μ 13 0 7 0) (fun μ1 => ((f_R_isProphecy x1 μ1)).bind (fun r2 => ((f_R_right r2 1 μ1)).bind (fun r3 => if r3.1 = 0 then (some ((0, r3.2))) else (((f_R_inQueue x1 r3.2)).bind (fun r4 => some ((r4, r3.2)))))))
set_option maxRecDepth 100000 in
set_option maxHeartbeats 4000000 in
theorem w_R_placeInQueue {g : GL} {F G : RG} {nx : Nat} (d : Nat) {x1 : Int32} {μ : Mem}   {o : Int32 × Mem} (hG : LM vr 535 547 μ F G) (h : f_R_placeInQueue x1 μ = some o) : Mt g (d + 2) m_R_placeInQueue [.inr (0, off 13 0), .inl (.int x1)] (G, nx) 0 0 (pRW vr 535 547 (rI o.1) o.2 F nx) := by
  unfold f_R_placeInQueue at h
  have kE : ∀ v, o = v → pRW vr 535 547 (rI o.1) o.2 F nx = pRW vr 535 547 (rI v.1) v.2 F nx := fun v e => by rw [e]
  refine Mt.of9 [some (.inr (0, off 13 0)), some (.inl (.int x1))] (by decide +kernel) rfl rfl rfl rfl ?_
  refine ev_aload_n (k0 := 0) rfl d_R_placeInQueue_0 ?_
  refine cw_iconst 0 d_R_placeInQueue_1 rfl ?_
  obtain ⟨μ1, e_μ1, h⟩ := nm_some h
  refine cv_put (.inl (.int 0)) 0 hG okR v_13 fl_ProphecyShopModel_73_13 rfl rfl okv_int d_R_placeInQueue_2 ?_
  intro G hG; rw [← e_μ1] at hG
  refine ev_aload_n (k0 := 0) rfl d_R_placeInQueue_5 ?_
  refine ev_aload_n (k0 := 0) rfl d_R_placeInQueue_6 ?_
  refine ev_iload_n (k0 := 1) rfl d_R_placeInQueue_7 ?_
  obtain ⟨r2, hr2, h⟩ := bind_some9 h
  refine cv_V (d := d + 1) (mc1 := 0) (ms1 := 0) (mc := 0) (ms := 0) [.inl (.int x1)] hG v_13 rfl lk_ProphecyShopModel_346 (w_R_isProphecy (d + 0) hG hr2) rfl rfl d_R_placeInQueue_8 (aft_ro ?_)
  refine Ev.at (pc' := 11) rfl (Ev.cong (st' := [.inl (.int r2), .inr (0, off 13 0)]) ?_ rfl rfl)
  refine cw_iconst 1 d_R_placeInQueue_11 rfl ?_
  obtain ⟨r3, hr3, h⟩ := bind_some9 h
  refine cv_V (d := d + 1) (mc1 := 0) (ms1 := 0) (mc := 0) (ms := 0) [.inl (.int r2), .inl (.int 1)] hG v_13 rfl lk_ProphecyShopModel_128 (w_R_right (d + 1) hG hr3) rfl rfl d_R_placeInQueue_12 (aft_rw (fun G hG => ?_))
  refine Ev.at (pc' := 15) rfl (Ev.cong (st' := [.inl (.int r3.1)]) ?_ rfl rfl)
  refine ev_if_eq (tgt := 26) (by decide) d_R_placeInQueue_15 (fun c => ?_) (fun c => ?_)
  · rw [if_pos c] at h
    refine cw_iconst 0 d_R_placeInQueue_26 rfl ?_
    have hP := kE _ (Option.some.inj h).symm
    exact ev_ireturn (st := []) rfl rfl d_R_placeInQueue_27 (by rw [hP]; exact ⟨rfl, hG, rfl⟩)
  · rw [if_neg c] at h
    refine ev_aload_n (k0 := 0) rfl d_R_placeInQueue_18 ?_
    refine ev_iload_n (k0 := 1) rfl d_R_placeInQueue_19 ?_
    obtain ⟨r4, hr4, h⟩ := bind_some9 h
    refine cv_V (d := d + 1) (mc1 := 0) (ms1 := 0) (mc := 0) (ms := 0) [.inl (.int x1)] hG v_13 rfl lk_ProphecyShopModel_352 (w_R_inQueue (d + 1) hG hr4) rfl rfl d_R_placeInQueue_20 (aft_ro ?_)
    refine Ev.at (pc' := 23) rfl (Ev.cong (st' := [.inl (.int r4)]) ?_ rfl rfl)
    refine ev_goto (tgt := 27) (by decide) d_R_placeInQueue_23 ?_
    have hP := kE _ (Option.some.inj h).symm
    exact ev_ireturn (st := []) rfl rfl d_R_placeInQueue_27 (by rw [hP]; exact ⟨rfl, hG, rfl⟩)

/-- ProphecyShopModel.placeOf -/
def f_R_placeOf (x1 : Int32) (μ : Mem) : Option (Int32 × Mem) :=
  ((f_R_asked x1 2 μ)).bind (fun r1 => some ((r1.1, r1.2)))
set_option maxRecDepth 100000 in
set_option maxHeartbeats 4000000 in
theorem w_R_placeOf {g : GL} {F G : RG} {nx : Nat} (d : Nat) {x1 : Int32} {μ : Mem}   {o : Int32 × Mem} (hG : LM vr 535 547 μ F G) (h : f_R_placeOf x1 μ = some o) : Mt g (d + 3) m_R_placeOf [.inr (0, off 13 0), .inl (.int x1)] (G, nx) 0 0 (pRW vr 535 547 (rI o.1) o.2 F nx) := by
  unfold f_R_placeOf at h
  have kE : ∀ v, o = v → pRW vr 535 547 (rI o.1) o.2 F nx = pRW vr 535 547 (rI v.1) v.2 F nx := fun v e => by rw [e]
  refine Mt.of9 [some (.inr (0, off 13 0)), some (.inl (.int x1))] (by decide +kernel) rfl rfl rfl rfl ?_
  refine ev_aload_n (k0 := 0) rfl d_R_placeOf_0 ?_
  refine ev_iload_n (k0 := 1) rfl d_R_placeOf_1 ?_
  refine cw_iconst 2 d_R_placeOf_2 rfl ?_
  obtain ⟨r1, hr1, h⟩ := bind_some9 h
  refine cv_V (d := d + 2) (mc1 := 0) (ms1 := 0) (mc := 0) (ms := 0) [.inl (.int x1), .inl (.int 2)] hG v_13 rfl lk_ProphecyShopModel_349 (w_R_asked (d + 0) hG hr1) rfl rfl d_R_placeOf_3 (aft_rw (fun G hG => ?_))
  refine Ev.at (pc' := 6) rfl (Ev.cong (st' := [.inl (.int r1.1)]) ?_ rfl rfl)
  have hP := kE _ (Option.some.inj h).symm
  exact ev_ireturn (st := []) rfl rfl d_R_placeOf_6 (by rw [hP]; exact ⟨rfl, hG, rfl⟩)

/-- ProphecyShopModel.prophecyCount -/
def f_R_prophecyCount  (μ : Mem) : Option (Int32 × Mem) :=
  ((f_R_tells 10 μ)).bind (fun r1 => some ((r1.1, r1.2)))
set_option maxRecDepth 100000 in
set_option maxHeartbeats 4000000 in
theorem w_R_prophecyCount {g : GL} {F G : RG} {nx : Nat} (d : Nat)  {μ : Mem}   {o : Int32 × Mem} (hG : LM vr 535 547 μ F G) (h : f_R_prophecyCount  μ = some o) : Mt g (d + 1) m_R_prophecyCount [.inr (0, off 13 0)] (G, nx) 0 0 (pRW vr 535 547 (rI o.1) o.2 F nx) := by
  unfold f_R_prophecyCount at h
  have kE : ∀ v, o = v → pRW vr 535 547 (rI o.1) o.2 F nx = pRW vr 535 547 (rI v.1) v.2 F nx := fun v e => by rw [e]
  refine Mt.of9 [some (.inr (0, off 13 0))] (by decide +kernel) rfl rfl rfl rfl ?_
  refine ev_aload_n (k0 := 0) rfl d_R_prophecyCount_0 ?_
  refine cw_bipush 10 d_R_prophecyCount_1 rfl ?_
  obtain ⟨r1, hr1, h⟩ := bind_some9 h
  refine cv_V (d := d + 0) (mc1 := 0) (ms1 := 0) (mc := 0) (ms := 0) [.inl (.int 10)] hG v_13 rfl lk_ProphecyShopModel_324 (w_R_tells (d + 0) hG hr1) rfl rfl d_R_prophecyCount_3 (aft_rw (fun G hG => ?_))
  refine Ev.at (pc' := 6) rfl (Ev.cong (st' := [.inl (.int r1.1)]) ?_ rfl rfl)
  have hP := kE _ (Option.some.inj h).symm
  exact ev_ireturn (st := []) rfl rfl d_R_prophecyCount_6 (by rw [hP]; exact ⟨rfl, hG, rfl⟩)

/-- ProphecyShopModel.purse -/
def f_R_purse (x1 : Int32) (μ : Mem) : Option (Int32 × Mem) :=
  nm (st3 μ 13 0 7 0) (fun μ1 => ((f_R_isCustomer x1 μ1)).bind (fun r2 => ((f_R_right r2 1 μ1)).bind (fun r3 => if r3.1 = 0 then (some ((0, r3.2))) else (((f_R_ofCustomer x1 1 r3.2)).bind (fun r4 => some ((r4, r3.2)))))))
set_option maxRecDepth 100000 in
set_option maxHeartbeats 4000000 in
theorem w_R_purse {g : GL} {F G : RG} {nx : Nat} (d : Nat) {x1 : Int32} {μ : Mem}   {o : Int32 × Mem} (hG : LM vr 535 547 μ F G) (h : f_R_purse x1 μ = some o) : Mt g (d + 2) m_R_purse [.inr (0, off 13 0), .inl (.int x1)] (G, nx) 0 0 (pRW vr 535 547 (rI o.1) o.2 F nx) := by
  unfold f_R_purse at h
  have kE : ∀ v, o = v → pRW vr 535 547 (rI o.1) o.2 F nx = pRW vr 535 547 (rI v.1) v.2 F nx := fun v e => by rw [e]
  refine Mt.of9 [some (.inr (0, off 13 0)), some (.inl (.int x1))] (by decide +kernel) rfl rfl rfl rfl ?_
  refine ev_aload_n (k0 := 0) rfl d_R_purse_0 ?_
  refine cw_iconst 0 d_R_purse_1 rfl ?_
  obtain ⟨μ1, e_μ1, h⟩ := nm_some h
  refine cv_put (.inl (.int 0)) 0 hG okR v_13 fl_ProphecyShopModel_73_13 rfl rfl okv_int d_R_purse_2 ?_
  intro G hG; rw [← e_μ1] at hG
  refine ev_aload_n (k0 := 0) rfl d_R_purse_5 ?_
  refine ev_aload_n (k0 := 0) rfl d_R_purse_6 ?_
  refine ev_iload_n (k0 := 1) rfl d_R_purse_7 ?_
  obtain ⟨r2, hr2, h⟩ := bind_some9 h
  refine cv_V (d := d + 1) (mc1 := 0) (ms1 := 0) (mc := 0) (ms := 0) [.inl (.int x1)] hG v_13 rfl lk_ProphecyShopModel_327 (w_R_isCustomer (d + 0) hG hr2) rfl rfl d_R_purse_8 (aft_ro ?_)
  refine Ev.at (pc' := 11) rfl (Ev.cong (st' := [.inl (.int r2), .inr (0, off 13 0)]) ?_ rfl rfl)
  refine cw_iconst 1 d_R_purse_11 rfl ?_
  obtain ⟨r3, hr3, h⟩ := bind_some9 h
  refine cv_V (d := d + 1) (mc1 := 0) (ms1 := 0) (mc := 0) (ms := 0) [.inl (.int r2), .inl (.int 1)] hG v_13 rfl lk_ProphecyShopModel_128 (w_R_right (d + 1) hG hr3) rfl rfl d_R_purse_12 (aft_rw (fun G hG => ?_))
  refine Ev.at (pc' := 15) rfl (Ev.cong (st' := [.inl (.int r3.1)]) ?_ rfl rfl)
  refine ev_if_eq (tgt := 27) (by decide) d_R_purse_15 (fun c => ?_) (fun c => ?_)
  · rw [if_pos c] at h
    refine cw_iconst 0 d_R_purse_27 rfl ?_
    have hP := kE _ (Option.some.inj h).symm
    exact ev_ireturn (st := []) rfl rfl d_R_purse_28 (by rw [hP]; exact ⟨rfl, hG, rfl⟩)
  · rw [if_neg c] at h
    refine ev_aload_n (k0 := 0) rfl d_R_purse_18 ?_
    refine ev_iload_n (k0 := 1) rfl d_R_purse_19 ?_
    refine cw_iconst 1 d_R_purse_20 rfl ?_
    obtain ⟨r4, hr4, h⟩ := bind_some9 h
    refine cv_V (d := d + 1) (mc1 := 0) (ms1 := 0) (mc := 0) (ms := 0) [.inl (.int x1), .inl (.int 1)] hG v_13 rfl lk_ProphecyShopModel_101 (w_R_ofCustomer (d + 1) hG hr4) rfl rfl d_R_purse_21 (aft_ro ?_)
    refine Ev.at (pc' := 24) rfl (Ev.cong (st' := [.inl (.int r4)]) ?_ rfl rfl)
    refine ev_goto (tgt := 28) (by decide) d_R_purse_24 ?_
    have hP := kE _ (Option.some.inj h).symm
    exact ev_ireturn (st := []) rfl rfl d_R_purse_28 (by rw [hP]; exact ⟨rfl, hG, rfl⟩)

/-- ProphecyShopModel.queueLength -/
def f_R_queueLength  (μ : Mem) : Option (Int32 × Mem) :=
  ((f_R_tells 12 μ)).bind (fun r1 => some ((r1.1, r1.2)))
set_option maxRecDepth 100000 in
set_option maxHeartbeats 4000000 in
theorem w_R_queueLength {g : GL} {F G : RG} {nx : Nat} (d : Nat)  {μ : Mem}   {o : Int32 × Mem} (hG : LM vr 535 547 μ F G) (h : f_R_queueLength  μ = some o) : Mt g (d + 1) m_R_queueLength [.inr (0, off 13 0)] (G, nx) 0 0 (pRW vr 535 547 (rI o.1) o.2 F nx) := by
  unfold f_R_queueLength at h
  have kE : ∀ v, o = v → pRW vr 535 547 (rI o.1) o.2 F nx = pRW vr 535 547 (rI v.1) v.2 F nx := fun v e => by rw [e]
  refine Mt.of9 [some (.inr (0, off 13 0))] (by decide +kernel) rfl rfl rfl rfl ?_
  refine ev_aload_n (k0 := 0) rfl d_R_queueLength_0 ?_
  refine cw_bipush 12 d_R_queueLength_1 rfl ?_
  obtain ⟨r1, hr1, h⟩ := bind_some9 h
  refine cv_V (d := d + 0) (mc1 := 0) (ms1 := 0) (mc := 0) (ms := 0) [.inl (.int 12)] hG v_13 rfl lk_ProphecyShopModel_324 (w_R_tells (d + 0) hG hr1) rfl rfl d_R_queueLength_3 (aft_rw (fun G hG => ?_))
  refine Ev.at (pc' := 6) rfl (Ev.cong (st' := [.inl (.int r1.1)]) ?_ rfl rfl)
  have hP := kE _ (Option.some.inj h).symm
  exact ev_ireturn (st := []) rfl rfl d_R_queueLength_6 (by rw [hP]; exact ⟨rfl, hG, rfl⟩)

/-- ProphecyShopModel.takesCustomer -/
def f_R_takesCustomer  (μ : Mem) : Option (Int32 × Mem) :=
  ((f_R_looksAtName μ)).bind (fun r1 => ((f_R_customerNamed r1.1 r1.2)).bind (fun r2 => ((if r2 = ((-1)) then (some (0)) else (some (1)) : Option (Int32))).bind (fun q3 => ((f_R_passesName q3 r1.2)).bind (fun r4 => some ((r2, r4))))))
set_option maxRecDepth 100000 in
set_option maxHeartbeats 4000000 in
theorem w_R_takesCustomer {g : GL} {F G : RG} {nx : Nat} (d : Nat)  {μ : Mem}   {o : Int32 × Mem} (hG : LM vr 535 547 μ F G) (h : f_R_takesCustomer  μ = some o) : Mt g (d + 4) m_R_takesCustomer [.inr (0, off 13 0)] (G, nx) 0 0 (pRW vr 535 547 (rI o.1) o.2 F nx) := by
  unfold f_R_takesCustomer at h
  have kE : ∀ v, o = v → pRW vr 535 547 (rI o.1) o.2 F nx = pRW vr 535 547 (rI v.1) v.2 F nx := fun v e => by rw [e]
  refine Mt.of9 [some (.inr (0, off 13 0)), none] (by decide +kernel) rfl rfl rfl rfl ?_
  refine ev_aload_n (k0 := 0) rfl d_R_takesCustomer_0 ?_
  refine ev_aload_n (k0 := 0) rfl d_R_takesCustomer_1 ?_
  obtain ⟨r1, hr1, h⟩ := bind_some9 h
  refine cv_V (d := d + 3) (mc1 := 0) (ms1 := 0) (mc := 0) (ms := 0) [] hG v_13 rfl lk_ProphecyShopModel_182 (w_R_looksAtName (d + 2) hG hr1) rfl rfl d_R_takesCustomer_2 (aft_rw (fun G hG => ?_))
  refine Ev.at (pc' := 5) rfl (Ev.cong (st' := [.inl (.int r1.1), .inr (0, off 13 0)]) ?_ rfl rfl)
  obtain ⟨r2, hr2, h⟩ := bind_some9 h
  refine cv_V (d := d + 3) (mc1 := 0) (ms1 := 0) (mc := 0) (ms := 0) [.inl (.int r1.1)] hG v_13 rfl lk_ProphecyShopModel_195 (w_R_customerNamed (d + 2) hG hr2) rfl rfl d_R_takesCustomer_5 (aft_ro ?_)
  refine Ev.at (pc' := 8) rfl (Ev.cong (st' := [.inl (.int r2)]) ?_ rfl rfl)
  refine cw_istoreN_n 1 r2 rfl [some (.inr (0, off 13 0)), some (.inl (.int r2))] d_R_takesCustomer_8 rfl rfl rfl ?_
  refine ev_aload_n (k0 := 0) rfl d_R_takesCustomer_9 ?_
  refine ev_iload_n (k0 := 1) rfl d_R_takesCustomer_10 ?_
  refine cw_iconst (-1) d_R_takesCustomer_11 rfl ?_
  obtain ⟨q3, hj, h⟩ := bind_some9 h
  have K_q3 : Ev g (d + 4) m_R_takesCustomer 20 [none, some (.inl (.int r2))] [.inl (.int q3), .inr (0, off 13 0)] (G, nx) 0 0 (pRW vr 535 547 (rI o.1) o.2 F nx) := by
    obtain ⟨r4, hr4, h⟩ := bind_some9 h
    refine cv_V (d := d + 3) (mc1 := 0) (ms1 := 0) (mc := 0) (ms := 0) [.inl (.int q3)] hG v_13 rfl lk_ProphecyShopModel_188 (w_R_passesName (d + 0) hG hr4) rfl rfl d_R_takesCustomer_20 (aft_rw (fun G hG => ?_))
    refine Ev.at (pc' := 23) rfl (Ev.cong (st' := []) ?_ rfl rfl)
    refine ev_iload_n (k0 := 1) rfl d_R_takesCustomer_23 ?_
    have hP := kE _ (Option.some.inj h).symm
    exact ev_ireturn (st := []) rfl rfl d_R_takesCustomer_24 (by rw [hP]; exact ⟨rfl, hG, rfl⟩)
  clear h
  have h := hj
  refine ev_icmp_eq (tgt := 19) (by decide) d_R_takesCustomer_12 (fun c => ?_) (fun c => ?_)
  · rw [if_pos c] at h
    refine cw_iconst 0 d_R_takesCustomer_19 rfl ?_
    obtain rfl := Option.some.inj h
    exact Ev.sub (.n (.s LSb.z)) (K_q3)
  · rw [if_neg c] at h
    refine cw_iconst 1 d_R_takesCustomer_15 rfl ?_
    refine ev_goto (tgt := 20) (by decide) d_R_takesCustomer_16 ?_
    obtain rfl := Option.some.inj h
    exact Ev.sub (.n (.s LSb.z)) (K_q3)

/-- ProphecyShopModel.takesSort -/
def f_R_takesSort  (μ : Mem) : Option (Int32 × Mem) :=
  ((f_R_isWord 37 μ)).bind (fun r1 => ((if r1 = 0 then (((f_R_isWord 38 μ)).bind (fun r6 => if r6 = 0 then (((f_R_isWord 39 μ)).bind (fun r7 => if r7 = 0 then (some ((-1))) else (some (2)))) else (some (1)))) else (some (0)) : Option (Int32))).bind (fun q2 => ((if q2 = ((-1)) then (some (0)) else (some (1)) : Option (Int32))).bind (fun q3 => ((f_R_must q3 1 μ)).bind (fun r4 => ((f_R_goesOn r4.2)).bind (fun r5 => some ((q2, r5)))))))
set_option maxRecDepth 100000 in
set_option maxHeartbeats 4000000 in
theorem w_R_takesSort {g : GL} {F G : RG} {nx : Nat} (d : Nat)  {μ : Mem}  (hSG : SG g) {o : Int32 × Mem} (hG : LM vr 535 547 μ F G) (h : f_R_takesSort  μ = some o) : Mt g (d + 7) m_R_takesSort [.inr (0, off 13 0)] (G, nx) 0 0 (pRW vr 535 547 (rI o.1) o.2 F nx) := by
  unfold f_R_takesSort at h
  have kE : ∀ v, o = v → pRW vr 535 547 (rI o.1) o.2 F nx = pRW vr 535 547 (rI v.1) v.2 F nx := fun v e => by rw [e]
  refine Mt.of9 [some (.inr (0, off 13 0)), none] (by decide +kernel) rfl rfl rfl rfl ?_
  refine ev_aload_n (k0 := 0) rfl d_R_takesSort_0 ?_
  refine ev_ldcS st_37 d_R_takesSort_1 ?_
  obtain ⟨r1, hr1, h⟩ := bind_some9 h
  refine cv_V (d := d + 6) (mc1 := 0) (ms1 := 0) (mc := 0) (ms := 0) [.inr (1, 37)] hG v_13 rfl lk_ProphecyShopModel_200 (w_R_isWord (d + 0) (by decide) hSG hG hr1) rfl rfl d_R_takesSort_3 (aft_ro ?_)
  refine Ev.at (pc' := 6) rfl (Ev.cong (st' := [.inl (.int r1)]) ?_ rfl rfl)
  obtain ⟨q2, hj, h⟩ := bind_some9 h
  have K_q2 : Ev g (d + 7) m_R_takesSort 42 [some (.inr (0, off 13 0)), none] [.inl (.int q2)] (G, nx) 0 0 (pRW vr 535 547 (rI o.1) o.2 F nx) := by
    refine cw_istoreN_n 1 q2 rfl [some (.inr (0, off 13 0)), some (.inl (.int q2))] d_R_takesSort_42 rfl rfl rfl ?_
    refine ev_aload_n (k0 := 0) rfl d_R_takesSort_43 ?_
    refine ev_iload_n (k0 := 1) rfl d_R_takesSort_44 ?_
    refine cw_iconst (-1) d_R_takesSort_45 rfl ?_
    obtain ⟨q3, hj, h⟩ := bind_some9 h
    have K_q3 : Ev g (d + 7) m_R_takesSort 54 [some (.inr (0, off 13 0)), some (.inl (.int q2))] [.inl (.int q3), .inr (0, off 13 0)] (G, nx) 0 0 (pRW vr 535 547 (rI o.1) o.2 F nx) := by
      refine cw_iconst 1 d_R_takesSort_54 rfl ?_
      obtain ⟨r4, hr4, h⟩ := bind_some9 h
      refine cv_V (d := d + 6) (mc1 := 0) (ms1 := 0) (mc := 0) (ms := 0) [.inl (.int q3), .inl (.int 1)] hG v_13 rfl lk_ProphecyShopModel_169 (w_R_must (d + 6) hG hr4) rfl rfl d_R_takesSort_55 (aft_rw (fun G hG => ?_))
      refine Ev.at (pc' := 58) rfl (Ev.cong (st' := [.inl (.int r4.1)]) ?_ rfl rfl)
      refine ev_pop rfl d_R_takesSort_58 ?_
      refine ev_aload_n (k0 := 0) rfl d_R_takesSort_59 ?_
      obtain ⟨r5, hr5, h⟩ := bind_some9 h
      refine cv_V (d := d + 6) (mc1 := 0) (ms1 := 0) (mc := 0) (ms := 0) [] hG v_13 rfl lk_ProphecyShopModel_172 (w_R_goesOn (d + 4) hG hr5) rfl rfl d_R_takesSort_60 (aft_rw (fun G hG => ?_))
      refine Ev.at (pc' := 63) rfl (Ev.cong (st' := []) ?_ rfl rfl)
      refine ev_iload_n (k0 := 1) rfl d_R_takesSort_63 ?_
      have hP := kE _ (Option.some.inj h).symm
      exact ev_ireturn (st := []) rfl rfl d_R_takesSort_64 (by rw [hP]; exact ⟨rfl, hG, rfl⟩)
    clear h
    have h := hj
    refine ev_icmp_eq (tgt := 53) (by decide) d_R_takesSort_46 (fun c => ?_) (fun c => ?_)
    · rw [if_pos c] at h
      refine cw_iconst 0 d_R_takesSort_53 rfl ?_
      obtain rfl := Option.some.inj h
      exact K_q3
    · rw [if_neg c] at h
      refine cw_iconst 1 d_R_takesSort_49 rfl ?_
      refine ev_goto (tgt := 54) (by decide) d_R_takesSort_50 ?_
      obtain rfl := Option.some.inj h
      exact K_q3
  clear h
  have h := hj
  refine ev_if_eq (tgt := 13) (by decide) d_R_takesSort_6 (fun c => ?_) (fun c => ?_)
  · rw [if_pos c] at h
    refine ev_aload_n (k0 := 0) rfl d_R_takesSort_13 ?_
    refine ev_ldcwS st_38 d_R_takesSort_14 ?_
    obtain ⟨r6, hr6, h⟩ := bind_some9 h
    refine cv_V (d := d + 6) (mc1 := 0) (ms1 := 0) (mc := 0) (ms := 0) [.inr (1, 38)] hG v_13 rfl lk_ProphecyShopModel_200 (w_R_isWord (d + 0) (by decide) hSG hG hr6) rfl rfl d_R_takesSort_17 (aft_ro ?_)
    refine Ev.at (pc' := 20) rfl (Ev.cong (st' := [.inl (.int r6)]) ?_ rfl rfl)
    refine ev_if_eq (tgt := 27) (by decide) d_R_takesSort_20 (fun c => ?_) (fun c => ?_)
    · rw [if_pos c] at h
      refine ev_aload_n (k0 := 0) rfl d_R_takesSort_27 ?_
      refine ev_ldcwS st_39 d_R_takesSort_28 ?_
      obtain ⟨r7, hr7, h⟩ := bind_some9 h
      refine cv_V (d := d + 6) (mc1 := 0) (ms1 := 0) (mc := 0) (ms := 0) [.inr (1, 39)] hG v_13 rfl lk_ProphecyShopModel_200 (w_R_isWord (d + 0) (by decide) hSG hG hr7) rfl rfl d_R_takesSort_31 (aft_ro ?_)
      refine Ev.at (pc' := 34) rfl (Ev.cong (st' := [.inl (.int r7)]) ?_ rfl rfl)
      refine ev_if_eq (tgt := 41) (by decide) d_R_takesSort_34 (fun c => ?_) (fun c => ?_)
      · rw [if_pos c] at h
        refine cw_iconst (-1) d_R_takesSort_41 rfl ?_
        obtain rfl := Option.some.inj h
        exact K_q2
      · rw [if_neg c] at h
        refine cw_iconst 2 d_R_takesSort_37 rfl ?_
        refine ev_goto (tgt := 42) (by decide) d_R_takesSort_38 ?_
        obtain rfl := Option.some.inj h
        exact K_q2
    · rw [if_neg c] at h
      refine cw_iconst 1 d_R_takesSort_23 rfl ?_
      refine ev_goto (tgt := 42) (by decide) d_R_takesSort_24 ?_
      obtain rfl := Option.some.inj h
      exact K_q2
  · rw [if_neg c] at h
    refine cw_iconst 0 d_R_takesSort_9 rfl ?_
    refine ev_goto (tgt := 42) (by decide) d_R_takesSort_10 ?_
    obtain rfl := Option.some.inj h
    exact K_q2

/-- ProphecyShopModel.takesEvent -/
def f_R_takesEvent  (μ : Mem) : Option (Int32 × Mem) :=
  ((f_R_looksAtName μ)).bind (fun r1 => ((f_R_eventNamed r1.1 r1.2)).bind (fun r2 => ((if r2 = ((-1)) then (some (0)) else (some (1)) : Option (Int32))).bind (fun q3 => ((f_R_passesName q3 r1.2)).bind (fun r4 => some ((r2, r4))))))
set_option maxRecDepth 100000 in
set_option maxHeartbeats 4000000 in
theorem w_R_takesEvent {g : GL} {F G : RG} {nx : Nat} (d : Nat)  {μ : Mem}   {o : Int32 × Mem} (hG : LM vr 535 547 μ F G) (h : f_R_takesEvent  μ = some o) : Mt g (d + 4) m_R_takesEvent [.inr (0, off 13 0)] (G, nx) 0 0 (pRW vr 535 547 (rI o.1) o.2 F nx) := by
  unfold f_R_takesEvent at h
  have kE : ∀ v, o = v → pRW vr 535 547 (rI o.1) o.2 F nx = pRW vr 535 547 (rI v.1) v.2 F nx := fun v e => by rw [e]
  refine Mt.of9 [some (.inr (0, off 13 0)), none] (by decide +kernel) rfl rfl rfl rfl ?_
  refine ev_aload_n (k0 := 0) rfl d_R_takesEvent_0 ?_
  refine ev_aload_n (k0 := 0) rfl d_R_takesEvent_1 ?_
  obtain ⟨r1, hr1, h⟩ := bind_some9 h
  refine cv_V (d := d + 3) (mc1 := 0) (ms1 := 0) (mc := 0) (ms := 0) [] hG v_13 rfl lk_ProphecyShopModel_182 (w_R_looksAtName (d + 2) hG hr1) rfl rfl d_R_takesEvent_2 (aft_rw (fun G hG => ?_))
  refine Ev.at (pc' := 5) rfl (Ev.cong (st' := [.inl (.int r1.1), .inr (0, off 13 0)]) ?_ rfl rfl)
  obtain ⟨r2, hr2, h⟩ := bind_some9 h
  refine cv_V (d := d + 3) (mc1 := 0) (ms1 := 0) (mc := 0) (ms := 0) [.inl (.int r1.1)] hG v_13 rfl lk_ProphecyShopModel_185 (w_R_eventNamed (d + 2) hG hr2) rfl rfl d_R_takesEvent_5 (aft_ro ?_)
  refine Ev.at (pc' := 8) rfl (Ev.cong (st' := [.inl (.int r2)]) ?_ rfl rfl)
  refine cw_istoreN_n 1 r2 rfl [some (.inr (0, off 13 0)), some (.inl (.int r2))] d_R_takesEvent_8 rfl rfl rfl ?_
  refine ev_aload_n (k0 := 0) rfl d_R_takesEvent_9 ?_
  refine ev_iload_n (k0 := 1) rfl d_R_takesEvent_10 ?_
  refine cw_iconst (-1) d_R_takesEvent_11 rfl ?_
  obtain ⟨q3, hj, h⟩ := bind_some9 h
  have K_q3 : Ev g (d + 4) m_R_takesEvent 20 [none, some (.inl (.int r2))] [.inl (.int q3), .inr (0, off 13 0)] (G, nx) 0 0 (pRW vr 535 547 (rI o.1) o.2 F nx) := by
    obtain ⟨r4, hr4, h⟩ := bind_some9 h
    refine cv_V (d := d + 3) (mc1 := 0) (ms1 := 0) (mc := 0) (ms := 0) [.inl (.int q3)] hG v_13 rfl lk_ProphecyShopModel_188 (w_R_passesName (d + 0) hG hr4) rfl rfl d_R_takesEvent_20 (aft_rw (fun G hG => ?_))
    refine Ev.at (pc' := 23) rfl (Ev.cong (st' := []) ?_ rfl rfl)
    refine ev_iload_n (k0 := 1) rfl d_R_takesEvent_23 ?_
    have hP := kE _ (Option.some.inj h).symm
    exact ev_ireturn (st := []) rfl rfl d_R_takesEvent_24 (by rw [hP]; exact ⟨rfl, hG, rfl⟩)
  clear h
  have h := hj
  refine ev_icmp_eq (tgt := 19) (by decide) d_R_takesEvent_12 (fun c => ?_) (fun c => ?_)
  · rw [if_pos c] at h
    refine cw_iconst 0 d_R_takesEvent_19 rfl ?_
    obtain rfl := Option.some.inj h
    exact Ev.sub (.n (.s LSb.z)) (K_q3)
  · rw [if_neg c] at h
    refine cw_iconst 1 d_R_takesEvent_15 rfl ?_
    refine ev_goto (tgt := 20) (by decide) d_R_takesEvent_16 ?_
    obtain rfl := Option.some.inj h
    exact Ev.sub (.n (.s LSb.z)) (K_q3)

/-- ProphecyShopModel.takesPlace -/
def f_R_takesPlace  (μ : Mem) : Option (Int32 × Mem) :=
  ((f_R_looksAtName μ)).bind (fun r1 => ((f_R_placeNamed r1.1 r1.2)).bind (fun r2 => ((if r2 = ((-1)) then (some (0)) else (some (1)) : Option (Int32))).bind (fun q3 => ((f_R_passesName q3 r1.2)).bind (fun r4 => some ((r2, r4))))))
set_option maxRecDepth 100000 in
set_option maxHeartbeats 4000000 in
theorem w_R_takesPlace {g : GL} {F G : RG} {nx : Nat} (d : Nat)  {μ : Mem}   {o : Int32 × Mem} (hG : LM vr 535 547 μ F G) (h : f_R_takesPlace  μ = some o) : Mt g (d + 4) m_R_takesPlace [.inr (0, off 13 0)] (G, nx) 0 0 (pRW vr 535 547 (rI o.1) o.2 F nx) := by
  unfold f_R_takesPlace at h
  have kE : ∀ v, o = v → pRW vr 535 547 (rI o.1) o.2 F nx = pRW vr 535 547 (rI v.1) v.2 F nx := fun v e => by rw [e]
  refine Mt.of9 [some (.inr (0, off 13 0)), none] (by decide +kernel) rfl rfl rfl rfl ?_
  refine ev_aload_n (k0 := 0) rfl d_R_takesPlace_0 ?_
  refine ev_aload_n (k0 := 0) rfl d_R_takesPlace_1 ?_
  obtain ⟨r1, hr1, h⟩ := bind_some9 h
  refine cv_V (d := d + 3) (mc1 := 0) (ms1 := 0) (mc := 0) (ms := 0) [] hG v_13 rfl lk_ProphecyShopModel_182 (w_R_looksAtName (d + 2) hG hr1) rfl rfl d_R_takesPlace_2 (aft_rw (fun G hG => ?_))
  refine Ev.at (pc' := 5) rfl (Ev.cong (st' := [.inl (.int r1.1), .inr (0, off 13 0)]) ?_ rfl rfl)
  obtain ⟨r2, hr2, h⟩ := bind_some9 h
  refine cv_V (d := d + 3) (mc1 := 0) (ms1 := 0) (mc := 0) (ms := 0) [.inl (.int r1.1)] hG v_13 rfl lk_ProphecyShopModel_192 (w_R_placeNamed (d + 2) hG hr2) rfl rfl d_R_takesPlace_5 (aft_ro ?_)
  refine Ev.at (pc' := 8) rfl (Ev.cong (st' := [.inl (.int r2)]) ?_ rfl rfl)
  refine cw_istoreN_n 1 r2 rfl [some (.inr (0, off 13 0)), some (.inl (.int r2))] d_R_takesPlace_8 rfl rfl rfl ?_
  refine ev_aload_n (k0 := 0) rfl d_R_takesPlace_9 ?_
  refine ev_iload_n (k0 := 1) rfl d_R_takesPlace_10 ?_
  refine cw_iconst (-1) d_R_takesPlace_11 rfl ?_
  obtain ⟨q3, hj, h⟩ := bind_some9 h
  have K_q3 : Ev g (d + 4) m_R_takesPlace 20 [none, some (.inl (.int r2))] [.inl (.int q3), .inr (0, off 13 0)] (G, nx) 0 0 (pRW vr 535 547 (rI o.1) o.2 F nx) := by
    obtain ⟨r4, hr4, h⟩ := bind_some9 h
    refine cv_V (d := d + 3) (mc1 := 0) (ms1 := 0) (mc := 0) (ms := 0) [.inl (.int q3)] hG v_13 rfl lk_ProphecyShopModel_188 (w_R_passesName (d + 0) hG hr4) rfl rfl d_R_takesPlace_20 (aft_rw (fun G hG => ?_))
    refine Ev.at (pc' := 23) rfl (Ev.cong (st' := []) ?_ rfl rfl)
    refine ev_iload_n (k0 := 1) rfl d_R_takesPlace_23 ?_
    have hP := kE _ (Option.some.inj h).symm
    exact ev_ireturn (st := []) rfl rfl d_R_takesPlace_24 (by rw [hP]; exact ⟨rfl, hG, rfl⟩)
  clear h
  have h := hj
  refine ev_icmp_eq (tgt := 19) (by decide) d_R_takesPlace_12 (fun c => ?_) (fun c => ?_)
  · rw [if_pos c] at h
    refine cw_iconst 0 d_R_takesPlace_19 rfl ?_
    obtain rfl := Option.some.inj h
    exact Ev.sub (.n (.s LSb.z)) (K_q3)
  · rw [if_neg c] at h
    refine cw_iconst 1 d_R_takesPlace_15 rfl ?_
    refine ev_goto (tgt := 20) (by decide) d_R_takesPlace_16 ?_
    obtain rfl := Option.some.inj h
    exact Ev.sub (.n (.s LSb.z)) (K_q3)

/-- ProphecyShopModel.readsSale -/
def f_R_readsSale (x1 : Int32) (μ : Mem) : Option (Mem) :=
  ((f_R_takesCustomer μ)).bind (fun r1 => ((f_R_lays x1 0 r1.1 r1.2)).bind (fun r2 => ((f_R_takesSort r2)).bind (fun r3 => ((f_R_lays x1 3 r3.1 r3.2)).bind (fun r4 => ((f_R_takesEvent r4)).bind (fun r5 => ((f_R_lays x1 1 r5.1 r5.2)).bind (fun r6 => ((if r3.1 = 1 then (some (((-1), r6))) else (((f_R_takesPlace r6)).bind (fun r15 => some ((r15.1, r15.2)))) : Option (Int32 × Mem))).bind (fun q7 => ((f_R_lays x1 2 q7.1 q7.2)).bind (fun r8 => ((f_R_number 0 99 r8)).bind (fun r9 => ((f_R_lays x1 4 r9.1 r9.2)).bind (fun r10 => ((f_R_number 1 60 r10)).bind (fun r11 => ((f_R_lays x1 5 r11.1 r11.2)).bind (fun r12 => ((f_R_number 1 999 r12)).bind (fun r13 => ((f_R_lays x1 6 r13.1 r13.2)).bind (fun r14 => some r14))))))))))))))
set_option maxRecDepth 100000 in
set_option maxHeartbeats 4000000 in
theorem w_R_readsSale {g : GL} {F G : RG} {nx : Nat} (d : Nat) {x1 : Int32} {μ : Mem}  (hSG : SG g) {o : Mem} (hG : LM vr 535 547 μ F G) (h : f_R_readsSale x1 μ = some o) : Mt g (d + 8) m_R_readsSale [.inr (0, off 13 0), .inl (.int x1)] (G, nx) 0 0 (pRW vr 535 547 rV o F nx) := by
  unfold f_R_readsSale at h
  have kE : ∀ v, o = v → pRW vr 535 547 rV o F nx = pRW vr 535 547 rV v F nx := fun v e => by rw [e]
  refine Mt.of9 [some (.inr (0, off 13 0)), some (.inl (.int x1)), none] (by decide +kernel) rfl rfl rfl rfl ?_
  refine ev_aload_n (k0 := 0) rfl d_R_readsSale_0 ?_
  refine ev_iload_n (k0 := 1) rfl d_R_readsSale_1 ?_
  refine cw_iconst 0 d_R_readsSale_2 rfl ?_
  refine ev_aload_n (k0 := 0) rfl d_R_readsSale_3 ?_
  obtain ⟨r1, hr1, h⟩ := bind_some9 h
  refine cv_V (d := d + 7) (mc1 := 0) (ms1 := 0) (mc := 0) (ms := 0) [] hG v_13 rfl lk_ProphecyShopModel_261 (w_R_takesCustomer (d + 3) hG hr1) rfl rfl d_R_readsSale_4 (aft_rw (fun G hG => ?_))
  refine Ev.at (pc' := 7) rfl (Ev.cong (st' := [.inl (.int r1.1), .inl (.int 0), .inl (.int x1), .inr (0, off 13 0)]) ?_ rfl rfl)
  obtain ⟨r2, hr2, h⟩ := bind_some9 h
  refine cv_V (d := d + 7) (mc1 := 0) (ms1 := 0) (mc := 0) (ms := 0) [.inl (.int x1), .inl (.int 0), .inl (.int r1.1)] hG v_13 rfl lk_ProphecyShopModel_246 (w_R_lays (d + 7) hG hr2) rfl rfl d_R_readsSale_7 (aft_rw (fun G hG => ?_))
  refine Ev.at (pc' := 10) rfl (Ev.cong (st' := []) ?_ rfl rfl)
  refine ev_aload_n (k0 := 0) rfl d_R_readsSale_10 ?_
  obtain ⟨r3, hr3, h⟩ := bind_some9 h
  refine cv_V (d := d + 7) (mc1 := 0) (ms1 := 0) (mc := 0) (ms := 0) [] hG v_13 rfl lk_ProphecyShopModel_264 (w_R_takesSort (d + 0) hSG hG hr3) rfl rfl d_R_readsSale_11 (aft_rw (fun G hG => ?_))
  refine Ev.at (pc' := 14) rfl (Ev.cong (st' := [.inl (.int r3.1)]) ?_ rfl rfl)
  refine cw_istoreN_n 2 r3.1 rfl [some (.inr (0, off 13 0)), some (.inl (.int x1)), some (.inl (.int r3.1))] d_R_readsSale_14 rfl rfl rfl ?_
  refine ev_aload_n (k0 := 0) rfl d_R_readsSale_15 ?_
  refine ev_iload_n (k0 := 1) rfl d_R_readsSale_16 ?_
  refine cw_iconst 3 d_R_readsSale_17 rfl ?_
  refine ev_iload_n (k0 := 2) rfl d_R_readsSale_18 ?_
  obtain ⟨r4, hr4, h⟩ := bind_some9 h
  refine cv_V (d := d + 7) (mc1 := 0) (ms1 := 0) (mc := 0) (ms := 0) [.inl (.int x1), .inl (.int 3), .inl (.int r3.1)] hG v_13 rfl lk_ProphecyShopModel_246 (w_R_lays (d + 7) hG hr4) rfl rfl d_R_readsSale_19 (aft_rw (fun G hG => ?_))
  refine Ev.at (pc' := 22) rfl (Ev.cong (st' := []) ?_ rfl rfl)
  refine ev_aload_n (k0 := 0) rfl d_R_readsSale_22 ?_
  refine ev_iload_n (k0 := 1) rfl d_R_readsSale_23 ?_
  refine cw_iconst 1 d_R_readsSale_24 rfl ?_
  refine ev_aload_n (k0 := 0) rfl d_R_readsSale_25 ?_
  obtain ⟨r5, hr5, h⟩ := bind_some9 h
  refine cv_V (d := d + 7) (mc1 := 0) (ms1 := 0) (mc := 0) (ms := 0) [] hG v_13 rfl lk_ProphecyShopModel_267 (w_R_takesEvent (d + 3) hG hr5) rfl rfl d_R_readsSale_26 (aft_rw (fun G hG => ?_))
  refine Ev.at (pc' := 29) rfl (Ev.cong (st' := [.inl (.int r5.1), .inl (.int 1), .inl (.int x1), .inr (0, off 13 0)]) ?_ rfl rfl)
  obtain ⟨r6, hr6, h⟩ := bind_some9 h
  refine cv_V (d := d + 7) (mc1 := 0) (ms1 := 0) (mc := 0) (ms := 0) [.inl (.int x1), .inl (.int 1), .inl (.int r5.1)] hG v_13 rfl lk_ProphecyShopModel_246 (w_R_lays (d + 7) hG hr6) rfl rfl d_R_readsSale_29 (aft_rw (fun G hG => ?_))
  refine Ev.at (pc' := 32) rfl (Ev.cong (st' := []) ?_ rfl rfl)
  refine ev_aload_n (k0 := 0) rfl d_R_readsSale_32 ?_
  refine ev_iload_n (k0 := 1) rfl d_R_readsSale_33 ?_
  refine cw_iconst 2 d_R_readsSale_34 rfl ?_
  refine ev_iload_n (k0 := 2) rfl d_R_readsSale_35 ?_
  refine cw_iconst 1 d_R_readsSale_36 rfl ?_
  obtain ⟨q7, hj, h⟩ := bind_some9 h
  have K_q7 : ∀ G, LM vr 535 547 q7.2 F G → Ev g (d + 8) m_R_readsSale 48 [some (.inr (0, off 13 0)), some (.inl (.int x1)), none] [.inl (.int q7.1), .inl (.int 2), .inl (.int x1), .inr (0, off 13 0)] (G, nx) 0 0 (pRW vr 535 547 rV o F nx) := by
    intro G hG
    obtain ⟨r8, hr8, h⟩ := bind_some9 h
    refine cv_V (d := d + 7) (mc1 := 0) (ms1 := 0) (mc := 0) (ms := 0) [.inl (.int x1), .inl (.int 2), .inl (.int q7.1)] hG v_13 rfl lk_ProphecyShopModel_246 (w_R_lays (d + 7) hG hr8) rfl rfl d_R_readsSale_48 (aft_rw (fun G hG => ?_))
    refine Ev.at (pc' := 51) rfl (Ev.cong (st' := []) ?_ rfl rfl)
    refine ev_aload_n (k0 := 0) rfl d_R_readsSale_51 ?_
    refine ev_iload_n (k0 := 1) rfl d_R_readsSale_52 ?_
    refine cw_iconst 4 d_R_readsSale_53 rfl ?_
    refine ev_aload_n (k0 := 0) rfl d_R_readsSale_54 ?_
    refine cw_iconst 0 d_R_readsSale_55 rfl ?_
    refine cw_bipush 99 d_R_readsSale_56 rfl ?_
    obtain ⟨r9, hr9, h⟩ := bind_some9 h
    refine cv_V (d := d + 7) (mc1 := 0) (ms1 := 0) (mc := 0) (ms := 0) [.inl (.int 0), .inl (.int 99)] hG v_13 rfl lk_ProphecyShopModel_208 (w_R_number (d + 4) hG hr9) rfl rfl d_R_readsSale_58 (aft_rw (fun G hG => ?_))
    refine Ev.at (pc' := 61) rfl (Ev.cong (st' := [.inl (.int r9.1), .inl (.int 4), .inl (.int x1), .inr (0, off 13 0)]) ?_ rfl rfl)
    obtain ⟨r10, hr10, h⟩ := bind_some9 h
    refine cv_V (d := d + 7) (mc1 := 0) (ms1 := 0) (mc := 0) (ms := 0) [.inl (.int x1), .inl (.int 4), .inl (.int r9.1)] hG v_13 rfl lk_ProphecyShopModel_246 (w_R_lays (d + 7) hG hr10) rfl rfl d_R_readsSale_61 (aft_rw (fun G hG => ?_))
    refine Ev.at (pc' := 64) rfl (Ev.cong (st' := []) ?_ rfl rfl)
    refine ev_aload_n (k0 := 0) rfl d_R_readsSale_64 ?_
    refine ev_iload_n (k0 := 1) rfl d_R_readsSale_65 ?_
    refine cw_iconst 5 d_R_readsSale_66 rfl ?_
    refine ev_aload_n (k0 := 0) rfl d_R_readsSale_67 ?_
    refine cw_iconst 1 d_R_readsSale_68 rfl ?_
    refine cw_bipush 60 d_R_readsSale_69 rfl ?_
    obtain ⟨r11, hr11, h⟩ := bind_some9 h
    refine cv_V (d := d + 7) (mc1 := 0) (ms1 := 0) (mc := 0) (ms := 0) [.inl (.int 1), .inl (.int 60)] hG v_13 rfl lk_ProphecyShopModel_208 (w_R_number (d + 4) hG hr11) rfl rfl d_R_readsSale_71 (aft_rw (fun G hG => ?_))
    refine Ev.at (pc' := 74) rfl (Ev.cong (st' := [.inl (.int r11.1), .inl (.int 5), .inl (.int x1), .inr (0, off 13 0)]) ?_ rfl rfl)
    obtain ⟨r12, hr12, h⟩ := bind_some9 h
    refine cv_V (d := d + 7) (mc1 := 0) (ms1 := 0) (mc := 0) (ms := 0) [.inl (.int x1), .inl (.int 5), .inl (.int r11.1)] hG v_13 rfl lk_ProphecyShopModel_246 (w_R_lays (d + 7) hG hr12) rfl rfl d_R_readsSale_74 (aft_rw (fun G hG => ?_))
    refine Ev.at (pc' := 77) rfl (Ev.cong (st' := []) ?_ rfl rfl)
    refine ev_aload_n (k0 := 0) rfl d_R_readsSale_77 ?_
    refine ev_iload_n (k0 := 1) rfl d_R_readsSale_78 ?_
    refine cw_bipush 6 d_R_readsSale_79 rfl ?_
    refine ev_aload_n (k0 := 0) rfl d_R_readsSale_81 ?_
    refine cw_iconst 1 d_R_readsSale_82 rfl ?_
    refine cw_sipush 999 d_R_readsSale_83 rfl ?_
    obtain ⟨r13, hr13, h⟩ := bind_some9 h
    refine cv_V (d := d + 7) (mc1 := 0) (ms1 := 0) (mc := 0) (ms := 0) [.inl (.int 1), .inl (.int 999)] hG v_13 rfl lk_ProphecyShopModel_208 (w_R_number (d + 4) hG hr13) rfl rfl d_R_readsSale_86 (aft_rw (fun G hG => ?_))
    refine Ev.at (pc' := 89) rfl (Ev.cong (st' := [.inl (.int r13.1), .inl (.int 6), .inl (.int x1), .inr (0, off 13 0)]) ?_ rfl rfl)
    obtain ⟨r14, hr14, h⟩ := bind_some9 h
    refine cv_V (d := d + 7) (mc1 := 0) (ms1 := 0) (mc := 0) (ms := 0) [.inl (.int x1), .inl (.int 6), .inl (.int r13.1)] hG v_13 rfl lk_ProphecyShopModel_246 (w_R_lays (d + 7) hG hr14) rfl rfl d_R_readsSale_89 (aft_rw (fun G hG => ?_))
    refine Ev.at (pc' := 92) rfl (Ev.cong (st' := []) ?_ rfl rfl)
    have hP := kE _ (Option.some.inj h).symm
    exact ev_return (st := []) rfl d_R_readsSale_92 (by rw [hP]; exact ⟨rfl, hG, rfl⟩)
  clear h
  have h := hj
  refine ev_icmp_ne (tgt := 44) (by decide) d_R_readsSale_37 (fun c => ?_) (fun c => ?_)
  · rw [if_neg c] at h
    refine ev_aload_n (k0 := 0) rfl d_R_readsSale_44 ?_
    obtain ⟨r15, hr15, h⟩ := bind_some9 h
    refine cv_V (d := d + 7) (mc1 := 0) (ms1 := 0) (mc := 0) (ms := 0) [] hG v_13 rfl lk_ProphecyShopModel_270 (w_R_takesPlace (d + 3) hG hr15) rfl rfl d_R_readsSale_45 (aft_rw (fun G hG => ?_))
    refine Ev.at (pc' := 48) rfl (Ev.cong (st' := [.inl (.int r15.1), .inl (.int 2), .inl (.int x1), .inr (0, off 13 0)]) ?_ rfl rfl)
    obtain rfl := Option.some.inj h
    exact Ev.sub (.s (.s (.n LSb.z))) (K_q7 G hG)
  · rw [if_pos c] at h
    refine cw_iconst (-1) d_R_readsSale_40 rfl ?_
    refine ev_goto (tgt := 48) (by decide) d_R_readsSale_41 ?_
    obtain rfl := Option.some.inj h
    exact Ev.sub (.s (.s (.n LSb.z))) (K_q7 G hG)

/-- ProphecyShopModel.readsSingle -/
def f_R_readsSingle (x1 : Int32) (μ : Mem) : Option (Mem) :=
  chk (inb x1 30) (if (μ 47 0 x1.toNatClampNeg) = 0 then (((f_R_readsSale x1 μ)).bind (fun r2 => some r2)) else (if (μ 47 0 x1.toNatClampNeg) = 1 then (((f_R_takesEvent μ)).bind (fun r3 => ((f_R_lays x1 1 r3.1 r3.2)).bind (fun r4 => ((f_R_takesPlace r4)).bind (fun r5 => ((f_R_lays x1 2 r5.1 r5.2)).bind (fun r6 => some r6))))) else (if (μ 47 0 x1.toNatClampNeg) = 2 then (((f_R_number 0 23 μ)).bind (fun r7 => ((f_R_lays x1 0 r7.1 r7.2)).bind (fun r8 => some r8))) else (((f_R_number 1 60 μ)).bind (fun r9 => ((f_R_lays x1 0 r9.1 r9.2)).bind (fun r10 => some r10))))))
set_option maxRecDepth 100000 in
set_option maxHeartbeats 4000000 in
theorem w_R_readsSingle {g : GL} {F G : RG} {nx : Nat} (d : Nat) {x1 : Int32} {μ : Mem}  (hSG : SG g) {o : Mem} (hG : LM vr 535 547 μ F G) (h : f_R_readsSingle x1 μ = some o) : Mt g (d + 9) m_R_readsSingle [.inr (0, off 13 0), .inl (.int x1)] (G, nx) 0 0 (pRW vr 535 547 rV o F nx) := by
  unfold f_R_readsSingle at h
  have kE : ∀ v, o = v → pRW vr 535 547 rV o F nx = pRW vr 535 547 rV v F nx := fun v e => by rw [e]
  refine Mt.of9 [some (.inr (0, off 13 0)), some (.inl (.int x1))] (by decide +kernel) rfl rfl rfl rfl ?_
  refine ev_aload_n (k0 := 0) rfl d_R_readsSingle_0 ?_
  refine cv_get9 (.inr (0, off 47 0)) hG v_13 fg_ProphecyShopModel_36_13 rfl rfl d_R_readsSingle_1 ?_
  refine ev_iload_n (k0 := 1) rfl d_R_readsSingle_4 ?_
  obtain ⟨b1, h⟩ := chk_some h
  refine cv_iald hG v_47 rfl rfl b1 rfl d_R_readsSingle_5 ?_
  by_cases c0 : (μ 47 0 x1.toNatClampNeg) = 0
  · rw [if_pos c0] at h
    refine ev_tabIn (tgt := 32) (off := 26) (by rw [c0]; decide) (by rw [c0]; decide) (by rw [c0]; rfl) (by decide) d_R_readsSingle_6 ?_
    refine ev_aload_n (k0 := 0) rfl d_R_readsSingle_32 ?_
    refine ev_iload_n (k0 := 1) rfl d_R_readsSingle_33 ?_
    obtain ⟨r2, hr2, h⟩ := bind_some9 h
    refine cv_V (d := d + 8) (mc1 := 0) (ms1 := 0) (mc := 0) (ms := 0) [.inl (.int x1)] hG v_13 rfl lk_ProphecyShopModel_273 (w_R_readsSale (d + 0) hSG hG hr2) rfl rfl d_R_readsSingle_34 (aft_rw (fun G hG => ?_))
    refine Ev.at (pc' := 37) rfl (Ev.cong (st' := []) ?_ rfl rfl)
    refine ev_goto (tgt := 92) (by decide) d_R_readsSingle_37 ?_
    have hP := kE _ (Option.some.inj h).symm
    exact ev_return (st := []) rfl d_R_readsSingle_92 (by rw [hP]; exact ⟨rfl, hG, rfl⟩)
  rw [if_neg c0] at h
  by_cases c1 : (μ 47 0 x1.toNatClampNeg) = 1
  · rw [if_pos c1] at h
    refine ev_tabIn (tgt := 40) (off := 34) (by rw [c1]; decide) (by rw [c1]; decide) (by rw [c1]; rfl) (by decide) d_R_readsSingle_6 ?_
    refine ev_aload_n (k0 := 0) rfl d_R_readsSingle_40 ?_
    refine ev_iload_n (k0 := 1) rfl d_R_readsSingle_41 ?_
    refine cw_iconst 1 d_R_readsSingle_42 rfl ?_
    refine ev_aload_n (k0 := 0) rfl d_R_readsSingle_43 ?_
    obtain ⟨r3, hr3, h⟩ := bind_some9 h
    refine cv_V (d := d + 8) (mc1 := 0) (ms1 := 0) (mc := 0) (ms := 0) [] hG v_13 rfl lk_ProphecyShopModel_267 (w_R_takesEvent (d + 4) hG hr3) rfl rfl d_R_readsSingle_44 (aft_rw (fun G hG => ?_))
    refine Ev.at (pc' := 47) rfl (Ev.cong (st' := [.inl (.int r3.1), .inl (.int 1), .inl (.int x1), .inr (0, off 13 0)]) ?_ rfl rfl)
    obtain ⟨r4, hr4, h⟩ := bind_some9 h
    refine cv_V (d := d + 8) (mc1 := 0) (ms1 := 0) (mc := 0) (ms := 0) [.inl (.int x1), .inl (.int 1), .inl (.int r3.1)] hG v_13 rfl lk_ProphecyShopModel_246 (w_R_lays (d + 8) hG hr4) rfl rfl d_R_readsSingle_47 (aft_rw (fun G hG => ?_))
    refine Ev.at (pc' := 50) rfl (Ev.cong (st' := []) ?_ rfl rfl)
    refine ev_aload_n (k0 := 0) rfl d_R_readsSingle_50 ?_
    refine ev_iload_n (k0 := 1) rfl d_R_readsSingle_51 ?_
    refine cw_iconst 2 d_R_readsSingle_52 rfl ?_
    refine ev_aload_n (k0 := 0) rfl d_R_readsSingle_53 ?_
    obtain ⟨r5, hr5, h⟩ := bind_some9 h
    refine cv_V (d := d + 8) (mc1 := 0) (ms1 := 0) (mc := 0) (ms := 0) [] hG v_13 rfl lk_ProphecyShopModel_270 (w_R_takesPlace (d + 4) hG hr5) rfl rfl d_R_readsSingle_54 (aft_rw (fun G hG => ?_))
    refine Ev.at (pc' := 57) rfl (Ev.cong (st' := [.inl (.int r5.1), .inl (.int 2), .inl (.int x1), .inr (0, off 13 0)]) ?_ rfl rfl)
    obtain ⟨r6, hr6, h⟩ := bind_some9 h
    refine cv_V (d := d + 8) (mc1 := 0) (ms1 := 0) (mc := 0) (ms := 0) [.inl (.int x1), .inl (.int 2), .inl (.int r5.1)] hG v_13 rfl lk_ProphecyShopModel_246 (w_R_lays (d + 8) hG hr6) rfl rfl d_R_readsSingle_57 (aft_rw (fun G hG => ?_))
    refine Ev.at (pc' := 60) rfl (Ev.cong (st' := []) ?_ rfl rfl)
    refine ev_goto (tgt := 92) (by decide) d_R_readsSingle_60 ?_
    have hP := kE _ (Option.some.inj h).symm
    exact ev_return (st := []) rfl d_R_readsSingle_92 (by rw [hP]; exact ⟨rfl, hG, rfl⟩)
  rw [if_neg c1] at h
  by_cases c2 : (μ 47 0 x1.toNatClampNeg) = 2
  · rw [if_pos c2] at h
    refine ev_tabIn (tgt := 63) (off := 57) (by rw [c2]; decide) (by rw [c2]; decide) (by rw [c2]; rfl) (by decide) d_R_readsSingle_6 ?_
    refine ev_aload_n (k0 := 0) rfl d_R_readsSingle_63 ?_
    refine ev_iload_n (k0 := 1) rfl d_R_readsSingle_64 ?_
    refine cw_iconst 0 d_R_readsSingle_65 rfl ?_
    refine ev_aload_n (k0 := 0) rfl d_R_readsSingle_66 ?_
    refine cw_iconst 0 d_R_readsSingle_67 rfl ?_
    refine cw_bipush 23 d_R_readsSingle_68 rfl ?_
    obtain ⟨r7, hr7, h⟩ := bind_some9 h
    refine cv_V (d := d + 8) (mc1 := 0) (ms1 := 0) (mc := 0) (ms := 0) [.inl (.int 0), .inl (.int 23)] hG v_13 rfl lk_ProphecyShopModel_208 (w_R_number (d + 5) hG hr7) rfl rfl d_R_readsSingle_70 (aft_rw (fun G hG => ?_))
    refine Ev.at (pc' := 73) rfl (Ev.cong (st' := [.inl (.int r7.1), .inl (.int 0), .inl (.int x1), .inr (0, off 13 0)]) ?_ rfl rfl)
    obtain ⟨r8, hr8, h⟩ := bind_some9 h
    refine cv_V (d := d + 8) (mc1 := 0) (ms1 := 0) (mc := 0) (ms := 0) [.inl (.int x1), .inl (.int 0), .inl (.int r7.1)] hG v_13 rfl lk_ProphecyShopModel_246 (w_R_lays (d + 8) hG hr8) rfl rfl d_R_readsSingle_73 (aft_rw (fun G hG => ?_))
    refine Ev.at (pc' := 76) rfl (Ev.cong (st' := []) ?_ rfl rfl)
    refine ev_goto (tgt := 92) (by decide) d_R_readsSingle_76 ?_
    have hP := kE _ (Option.some.inj h).symm
    exact ev_return (st := []) rfl d_R_readsSingle_92 (by rw [hP]; exact ⟨rfl, hG, rfl⟩)
  rw [if_neg c2] at h
  refine ev_tabOut (tgt := 79) (tab_out (n := 2) (by decide) (fun k hk e => by rcases (show k = 0 ∨ k = 1 ∨ k = 2 by omega) with rfl | rfl | rfl <;> first | exact c0 e | exact c1 e | exact c2 e)) (by decide) d_R_readsSingle_6 ?_
  refine ev_aload_n (k0 := 0) rfl d_R_readsSingle_79 ?_
  refine ev_iload_n (k0 := 1) rfl d_R_readsSingle_80 ?_
  refine cw_iconst 0 d_R_readsSingle_81 rfl ?_
  refine ev_aload_n (k0 := 0) rfl d_R_readsSingle_82 ?_
  refine cw_iconst 1 d_R_readsSingle_83 rfl ?_
  refine cw_bipush 60 d_R_readsSingle_84 rfl ?_
  obtain ⟨r9, hr9, h⟩ := bind_some9 h
  refine cv_V (d := d + 8) (mc1 := 0) (ms1 := 0) (mc := 0) (ms := 0) [.inl (.int 1), .inl (.int 60)] hG v_13 rfl lk_ProphecyShopModel_208 (w_R_number (d + 5) hG hr9) rfl rfl d_R_readsSingle_86 (aft_rw (fun G hG => ?_))
  refine Ev.at (pc' := 89) rfl (Ev.cong (st' := [.inl (.int r9.1), .inl (.int 0), .inl (.int x1), .inr (0, off 13 0)]) ?_ rfl rfl)
  obtain ⟨r10, hr10, h⟩ := bind_some9 h
  refine cv_V (d := d + 8) (mc1 := 0) (ms1 := 0) (mc := 0) (ms := 0) [.inl (.int x1), .inl (.int 0), .inl (.int r9.1)] hG v_13 rfl lk_ProphecyShopModel_246 (w_R_lays (d + 8) hG hr10) rfl rfl d_R_readsSingle_89 (aft_rw (fun G hG => ?_))
  refine Ev.at (pc' := 92) rfl (Ev.cong (st' := []) ?_ rfl rfl)
  have hP := kE _ (Option.some.inj h).symm
  exact ev_return (st := []) rfl d_R_readsSingle_92 (by rw [hP]; exact ⟨rfl, hG, rfl⟩)

/-- ProphecyShopModel.refundOf -/
def f_R_refundOf (x1 : Int32) (μ : Mem) : Option (Int32 × Mem) :=
  nm (st3 μ 13 0 7 0) (fun μ1 => ((f_R_isProphecy x1 μ1)).bind (fun r2 => ((f_R_right r2 1 μ1)).bind (fun r3 => if r3.1 = 0 then (some ((0, r3.2))) else (((f_R_refund x1 r3.2)).bind (fun r4 => some ((r4, r3.2)))))))
set_option maxRecDepth 100000 in
set_option maxHeartbeats 4000000 in
theorem w_R_refundOf {g : GL} {F G : RG} {nx : Nat} (d : Nat) {x1 : Int32} {μ : Mem}   {o : Int32 × Mem} (hG : LM vr 535 547 μ F G) (h : f_R_refundOf x1 μ = some o) : Mt g (d + 2) m_R_refundOf [.inr (0, off 13 0), .inl (.int x1)] (G, nx) 0 0 (pRW vr 535 547 (rI o.1) o.2 F nx) := by
  unfold f_R_refundOf at h
  have kE : ∀ v, o = v → pRW vr 535 547 (rI o.1) o.2 F nx = pRW vr 535 547 (rI v.1) v.2 F nx := fun v e => by rw [e]
  refine Mt.of9 [some (.inr (0, off 13 0)), some (.inl (.int x1))] (by decide +kernel) rfl rfl rfl rfl ?_
  refine ev_aload_n (k0 := 0) rfl d_R_refundOf_0 ?_
  refine cw_iconst 0 d_R_refundOf_1 rfl ?_
  obtain ⟨μ1, e_μ1, h⟩ := nm_some h
  refine cv_put (.inl (.int 0)) 0 hG okR v_13 fl_ProphecyShopModel_73_13 rfl rfl okv_int d_R_refundOf_2 ?_
  intro G hG; rw [← e_μ1] at hG
  refine ev_aload_n (k0 := 0) rfl d_R_refundOf_5 ?_
  refine ev_aload_n (k0 := 0) rfl d_R_refundOf_6 ?_
  refine ev_iload_n (k0 := 1) rfl d_R_refundOf_7 ?_
  obtain ⟨r2, hr2, h⟩ := bind_some9 h
  refine cv_V (d := d + 1) (mc1 := 0) (ms1 := 0) (mc := 0) (ms := 0) [.inl (.int x1)] hG v_13 rfl lk_ProphecyShopModel_346 (w_R_isProphecy (d + 0) hG hr2) rfl rfl d_R_refundOf_8 (aft_ro ?_)
  refine Ev.at (pc' := 11) rfl (Ev.cong (st' := [.inl (.int r2), .inr (0, off 13 0)]) ?_ rfl rfl)
  refine cw_iconst 1 d_R_refundOf_11 rfl ?_
  obtain ⟨r3, hr3, h⟩ := bind_some9 h
  refine cv_V (d := d + 1) (mc1 := 0) (ms1 := 0) (mc := 0) (ms := 0) [.inl (.int r2), .inl (.int 1)] hG v_13 rfl lk_ProphecyShopModel_128 (w_R_right (d + 1) hG hr3) rfl rfl d_R_refundOf_12 (aft_rw (fun G hG => ?_))
  refine Ev.at (pc' := 15) rfl (Ev.cong (st' := [.inl (.int r3.1)]) ?_ rfl rfl)
  refine ev_if_eq (tgt := 26) (by decide) d_R_refundOf_15 (fun c => ?_) (fun c => ?_)
  · rw [if_pos c] at h
    refine cw_iconst 0 d_R_refundOf_26 rfl ?_
    have hP := kE _ (Option.some.inj h).symm
    exact ev_ireturn (st := []) rfl rfl d_R_refundOf_27 (by rw [hP]; exact ⟨rfl, hG, rfl⟩)
  · rw [if_neg c] at h
    refine ev_aload_n (k0 := 0) rfl d_R_refundOf_18 ?_
    refine ev_iload_n (k0 := 1) rfl d_R_refundOf_19 ?_
    obtain ⟨r4, hr4, h⟩ := bind_some9 h
    refine cv_V (d := d + 1) (mc1 := 0) (ms1 := 0) (mc := 0) (ms := 0) [.inl (.int x1)] hG v_13 rfl lk_ProphecyShopModel_91 (w_R_refund (d + 0) hG hr4) rfl rfl d_R_refundOf_20 (aft_ro ?_)
    refine Ev.at (pc' := 23) rfl (Ev.cong (st' := [.inl (.int r4)]) ?_ rfl rfl)
    refine ev_goto (tgt := 27) (by decide) d_R_refundOf_23 ?_
    have hP := kE _ (Option.some.inj h).symm
    exact ev_ireturn (st := []) rfl rfl d_R_refundOf_27 (by rw [hP]; exact ⟨rfl, hG, rfl⟩)

/-- ProphecyShopModel.refundTotal -/
def f_R_refundTotal  (μ : Mem) : Option (Int32 × Mem) :=
  ((f_R_tells 14 μ)).bind (fun r1 => some ((r1.1, r1.2)))
set_option maxRecDepth 100000 in
set_option maxHeartbeats 4000000 in
theorem w_R_refundTotal {g : GL} {F G : RG} {nx : Nat} (d : Nat)  {μ : Mem}   {o : Int32 × Mem} (hG : LM vr 535 547 μ F G) (h : f_R_refundTotal  μ = some o) : Mt g (d + 1) m_R_refundTotal [.inr (0, off 13 0)] (G, nx) 0 0 (pRW vr 535 547 (rI o.1) o.2 F nx) := by
  unfold f_R_refundTotal at h
  have kE : ∀ v, o = v → pRW vr 535 547 (rI o.1) o.2 F nx = pRW vr 535 547 (rI v.1) v.2 F nx := fun v e => by rw [e]
  refine Mt.of9 [some (.inr (0, off 13 0))] (by decide +kernel) rfl rfl rfl rfl ?_
  refine ev_aload_n (k0 := 0) rfl d_R_refundTotal_0 ?_
  refine cw_bipush 14 d_R_refundTotal_1 rfl ?_
  obtain ⟨r1, hr1, h⟩ := bind_some9 h
  refine cv_V (d := d + 0) (mc1 := 0) (ms1 := 0) (mc := 0) (ms := 0) [.inl (.int 14)] hG v_13 rfl lk_ProphecyShopModel_324 (w_R_tells (d + 0) hG hr1) rfl rfl d_R_refundTotal_3 (aft_rw (fun G hG => ?_))
  refine Ev.at (pc' := 6) rfl (Ev.cong (st' := [.inl (.int r1.1)]) ?_ rfl rfl)
  have hP := kE _ (Option.some.inj h).symm
  exact ev_ireturn (st := []) rfl rfl d_R_refundTotal_6 (by rw [hP]; exact ⟨rfl, hG, rfl⟩)

/-- ProphecyShopModel.restore -/
def s_R_restore_37 (x1 : Int32) (x2 : Int32) (μ : Mem) : Option ((Int32 × Mem) ⊕ (Mem)) :=
  if (524 : Int32) ≤ x2 then (some (.inr μ)) else (chk (inb ((524 * x1) + x2) 1048) (chk (inb x2 524) (nm (st3 μ 40 0 x2.toNatClampNeg (μ 44 0 ((524 * x1) + x2).toNatClampNeg)) (fun μ3 => some (.inl ((x2 + 1, μ3)))))))
def f_R_restore (x1 : Int32) (μ : Mem) : Option (Int32 × Mem) :=
  nm (st3 μ 13 0 7 0) (fun μ1 => ((f_R_in x1 0 1 μ1)).bind (fun r2 => ((f_R_right r2 1 μ1)).bind (fun r3 => if r3.1 = 0 then (some ((0, r3.2))) else (chk (inb x1 2) (((f_R_right (r3.2 45 0 x1.toNatClampNeg) 2 r3.2)).bind (fun r5 => if r5.1 = 0 then (some ((0, r5.2))) else ((it (fun (s : Int32 × Mem) => s_R_restore_37 x1 s.1 s.2) LIM ((0, r5.2))).bind (fun q6 => nm (st3 q6 13 0 6 0) (fun μ7 => chk (inb 5 524) (some ((μ7 40 0 (5 : Int32).toNatClampNeg, μ7))))))))))))
set_option maxRecDepth 100000 in
set_option maxHeartbeats 4000000 in
theorem ws_R_restore_37 {g : GL} {F G : RG} {nx mc ms : Nat} {Post : RO → RM → Prop} (d : Nat) {x1 : Int32} {x2 : Int32} {μ : Mem}   {o : (Int32 × Mem) ⊕ (Mem)} (hG : LM vr 535 547 μ F G) (h : s_R_restore_37 x1 x2 μ = some o)
    (kC : ∀ s', o = .inl s' → ∀ G, LM vr 535 547 s'.2 F G → Ev g (d + 1) m_R_restore 37 [some (.inr (0, off 13 0)), some (.inl (.int x1)), some (.inl (.int s'.1))] [] (G, nx) mc ms Post)
    (kX : ∀ r, o = .inr r → ∀ G, LM vr 535 547 r F G → Ev g (d + 1) m_R_restore 68 [some (.inr (0, off 13 0)), none, none] [] (G, nx) mc ms Post)
    : Ev g (d + 1) m_R_restore 37 [some (.inr (0, off 13 0)), some (.inl (.int x1)), some (.inl (.int x2))] [] (G, nx) mc ms Post := by
  unfold s_R_restore_37 at h
  refine ev_iload_n (k0 := 2) rfl d_R_restore_37 ?_
  refine cw_sipush 524 d_R_restore_38 rfl ?_
  refine ev_icmp_ge (tgt := 68) (by decide) d_R_restore_41 (fun c => ?_) (fun c => ?_)
  · rw [if_pos c] at h
    exact Ev.sub (.s (.n (.n LSb.z))) (kX _ (Option.some.inj h).symm G hG)
  · rw [if_neg c] at h
    refine ev_aload_n (k0 := 0) rfl d_R_restore_44 ?_
    refine cv_get9 (.inr (0, off 40 0)) hG v_13 fg_ProphecyShopModel_7_13 rfl rfl d_R_restore_45 ?_
    refine ev_iload_n (k0 := 2) rfl d_R_restore_48 ?_
    refine ev_aload_n (k0 := 0) rfl d_R_restore_49 ?_
    refine cv_get9 (.inr (0, off 44 0)) hG v_13 fg_ProphecyShopModel_22_13 rfl rfl d_R_restore_50 ?_
    refine cw_sipush 524 d_R_restore_53 rfl ?_
    refine ev_iload_n (k0 := 1) rfl d_R_restore_56 ?_
    refine ev_imul d_R_restore_57 ?_
    refine ev_iload_n (k0 := 2) rfl d_R_restore_58 ?_
    refine ev_iadd d_R_restore_59 ?_
    obtain ⟨b1, h⟩ := chk_some h
    refine cv_iald hG v_44 rfl rfl b1 rfl d_R_restore_60 ?_
    refine Ev.at (pc' := 61) rfl ?_
    obtain ⟨b2, h⟩ := chk_some h
    obtain ⟨μ3, e_μ3, h⟩ := nm_some h
    refine cv_iast hG okR v_40 rfl rfl b2 rfl d_R_restore_61 ?_
    intro G hG; rw [← e_μ3] at hG
    refine cw_iincN 2 1 [some (.inr (0, off 13 0)), some (.inl (.int x1)), some (.inl (.int (x2 + 1)))] d_R_restore_62 rfl rfl rfl rfl rfl ?_
    refine ev_goto (tgt := 37) (by decide) d_R_restore_65 ?_
    exact kC _ (Option.some.inj h).symm G hG
set_option maxRecDepth 100000 in
set_option maxHeartbeats 4000000 in
theorem w_R_restore {g : GL} {F G : RG} {nx : Nat} (d : Nat) {x1 : Int32} {μ : Mem}   {o : Int32 × Mem} (hG : LM vr 535 547 μ F G) (h : f_R_restore x1 μ = some o) : Mt g (d + 1) m_R_restore [.inr (0, off 13 0), .inl (.int x1)] (G, nx) 0 0 (pRW vr 535 547 (rI o.1) o.2 F nx) := by
  unfold f_R_restore at h
  have kE : ∀ v, o = v → pRW vr 535 547 (rI o.1) o.2 F nx = pRW vr 535 547 (rI v.1) v.2 F nx := fun v e => by rw [e]
  refine Mt.of9 [some (.inr (0, off 13 0)), some (.inl (.int x1)), none] (by decide +kernel) rfl rfl rfl rfl ?_
  refine ev_aload_n (k0 := 0) rfl d_R_restore_0 ?_
  refine cw_iconst 0 d_R_restore_1 rfl ?_
  obtain ⟨μ1, e_μ1, h⟩ := nm_some h
  refine cv_put (.inl (.int 0)) 0 hG okR v_13 fl_ProphecyShopModel_73_13 rfl rfl okv_int d_R_restore_2 ?_
  intro G hG; rw [← e_μ1] at hG
  refine ev_aload_n (k0 := 0) rfl d_R_restore_5 ?_
  refine ev_iload_n (k0 := 1) rfl d_R_restore_6 ?_
  refine cw_iconst 0 d_R_restore_7 rfl ?_
  refine cw_iconst 1 d_R_restore_8 rfl ?_
  obtain ⟨r2, hr2, h⟩ := bind_some9 h
  refine cw_S (d := d + 0) (mc1 := 0) (ms1 := 0) (mc := 0) (ms := 0) [.inl (.int x1), .inl (.int 0), .inl (.int 1)] lk_ProphecyShopModel_76 (w_R_in (d + 0) hG hr2) rfl rfl d_R_restore_9 (aft_ro ?_)
  refine Ev.at (pc' := 12) rfl (Ev.cong (st' := [.inl (.int r2), .inr (0, off 13 0)]) ?_ rfl rfl)
  refine cw_iconst 1 d_R_restore_12 rfl ?_
  obtain ⟨r3, hr3, h⟩ := bind_some9 h
  refine cv_V (d := d + 0) (mc1 := 0) (ms1 := 0) (mc := 0) (ms := 0) [.inl (.int r2), .inl (.int 1)] hG v_13 rfl lk_ProphecyShopModel_128 (w_R_right (d + 0) hG hr3) rfl rfl d_R_restore_13 (aft_rw (fun G hG => ?_))
  refine Ev.at (pc' := 16) rfl (Ev.cong (st' := [.inl (.int r3.1)]) ?_ rfl rfl)
  refine ev_if_eq (tgt := 33) (by decide) d_R_restore_16 (fun c => ?_) (fun c => ?_)
  · rw [if_pos c] at h
    refine cw_iconst 0 d_R_restore_33 rfl ?_
    have hP := kE _ (Option.some.inj h).symm
    exact ev_ireturn (st := []) rfl rfl d_R_restore_34 (by rw [hP]; exact ⟨rfl, hG, rfl⟩)
  · rw [if_neg c] at h
    refine ev_aload_n (k0 := 0) rfl d_R_restore_19 ?_
    refine ev_aload_n (k0 := 0) rfl d_R_restore_20 ?_
    refine cv_get9 (.inr (0, off 45 0)) hG v_13 fg_ProphecyShopModel_25_13 rfl rfl d_R_restore_21 ?_
    refine ev_iload_n (k0 := 1) rfl d_R_restore_24 ?_
    obtain ⟨b4, h⟩ := chk_some h
    refine cv_zald hG v_45 rfl rfl b4 rfl d_R_restore_25 ?_
    refine cw_iconst 2 d_R_restore_26 rfl ?_
    obtain ⟨r5, hr5, h⟩ := bind_some9 h
    refine cv_V (d := d + 0) (mc1 := 0) (ms1 := 0) (mc := 0) (ms := 0) [.inl (.int (r3.2 45 0 x1.toNatClampNeg)), .inl (.int 2)] hG v_13 rfl lk_ProphecyShopModel_128 (w_R_right (d + 0) hG hr5) rfl rfl d_R_restore_27 (aft_rw (fun G hG => ?_))
    refine Ev.at (pc' := 30) rfl (Ev.cong (st' := [.inl (.int r5.1)]) ?_ rfl rfl)
    refine ev_if_ne (tgt := 35) (by decide) d_R_restore_30 (fun c => ?_) (fun c => ?_)
    · rw [if_neg c] at h
      refine cw_iconst 0 d_R_restore_35 rfl ?_
      refine cw_istoreN_n 2 0 rfl [some (.inr (0, off 13 0)), some (.inl (.int x1)), some (.inl (.int 0))] d_R_restore_36 rfl rfl rfl ?_
      obtain ⟨q6, hl, h⟩ := bind_some9 h
      refine it_ev (W := fun (s : Int32 × Mem) => ∀ G, LM vr 535 547 s.2 F G → Ev g (d + 1) m_R_restore 37 [some (.inr (0, off 13 0)), some (.inl (.int x1)), some (.inl (.int s.1))] [] (G, nx) 0 0 (pRW vr 535 547 (rI o.1) o.2 F nx)) (X := fun z => z = q6) rfl (fun s9 o9 hs kC9 kX9 => ?_) LIM _ hl G hG
      intro G hG
      refine ws_R_restore_37 d  hG hs kC9 (fun r_ e G hG => ?_)
      · obtain rfl := (kX9 _ e).symm
        refine ev_aload_n (k0 := 0) rfl d_R_restore_68 ?_
        refine cw_iconst 0 d_R_restore_69 rfl ?_
        obtain ⟨μ7, e_μ7, h⟩ := nm_some h
        refine cv_put (.inl (.int 0)) 0 hG okR v_13 fl_ProphecyShopModel_233_13 rfl rfl okv_int d_R_restore_70 ?_
        intro G hG; rw [← e_μ7] at hG
        refine ev_aload_n (k0 := 0) rfl d_R_restore_73 ?_
        refine cv_get9 (.inr (0, off 40 0)) hG v_13 fg_ProphecyShopModel_7_13 rfl rfl d_R_restore_74 ?_
        refine cw_iconst 5 d_R_restore_77 rfl ?_
        obtain ⟨b8, h⟩ := chk_some h
        refine cv_iald hG v_40 rfl rfl b8 rfl d_R_restore_78 ?_
        have hP := kE _ (Option.some.inj h).symm
        exact ev_ireturn (st := []) rfl rfl d_R_restore_79 (by rw [hP]; exact ⟨rfl, hG, rfl⟩)
    · rw [if_pos c] at h
      refine cw_iconst 0 d_R_restore_33 rfl ?_
      have hP := kE _ (Option.some.inj h).symm
      exact ev_ireturn (st := []) rfl rfl d_R_restore_34 (by rw [hP]; exact ⟨rfl, hG, rfl⟩)

/-- ProphecyShopModel.save -/
def s_R_save_23 (x1 : Int32) (x2 : Int32) (μ : Mem) : Option ((Int32 × Mem) ⊕ (Mem)) :=
  if (524 : Int32) ≤ x2 then (some (.inr μ)) else (chk (inb x2 524) (chk (inb ((524 * x1) + x2) 1048) (nm (st3 μ 44 0 ((524 * x1) + x2).toNatClampNeg (μ 40 0 x2.toNatClampNeg)) (fun μ3 => some (.inl ((x2 + 1, μ3)))))))
def f_R_save (x1 : Int32) (μ : Mem) : Option (Int32 × Mem) :=
  nm (st3 μ 13 0 7 0) (fun μ1 => ((f_R_in x1 0 1 μ1)).bind (fun r2 => ((f_R_right r2 1 μ1)).bind (fun r3 => if r3.1 = 0 then (some ((0, r3.2))) else ((it (fun (s : Int32 × Mem) => s_R_save_23 x1 s.1 s.2) LIM ((0, r3.2))).bind (fun q4 => chk (inb x1 2) (nm (st3 q4 45 0 x1.toNatClampNeg 1) (fun μ6 => chk (inb 5 524) (some ((μ6 40 0 (5 : Int32).toNatClampNeg, μ6))))))))))
set_option maxRecDepth 100000 in
set_option maxHeartbeats 4000000 in
theorem ws_R_save_23 {g : GL} {F G : RG} {nx mc ms : Nat} {Post : RO → RM → Prop} (d : Nat) {x1 : Int32} {x2 : Int32} {μ : Mem}   {o : (Int32 × Mem) ⊕ (Mem)} (hG : LM vr 535 547 μ F G) (h : s_R_save_23 x1 x2 μ = some o)
    (kC : ∀ s', o = .inl s' → ∀ G, LM vr 535 547 s'.2 F G → Ev g (d + 1) m_R_save 23 [some (.inr (0, off 13 0)), some (.inl (.int x1)), some (.inl (.int s'.1))] [] (G, nx) mc ms Post)
    (kX : ∀ r, o = .inr r → ∀ G, LM vr 535 547 r F G → Ev g (d + 1) m_R_save 54 [some (.inr (0, off 13 0)), some (.inl (.int x1)), none] [] (G, nx) mc ms Post)
    : Ev g (d + 1) m_R_save 23 [some (.inr (0, off 13 0)), some (.inl (.int x1)), some (.inl (.int x2))] [] (G, nx) mc ms Post := by
  unfold s_R_save_23 at h
  refine ev_iload_n (k0 := 2) rfl d_R_save_23 ?_
  refine cw_sipush 524 d_R_save_24 rfl ?_
  refine ev_icmp_ge (tgt := 54) (by decide) d_R_save_27 (fun c => ?_) (fun c => ?_)
  · rw [if_pos c] at h
    exact Ev.sub (.s (.s (.n LSb.z))) (kX _ (Option.some.inj h).symm G hG)
  · rw [if_neg c] at h
    refine ev_aload_n (k0 := 0) rfl d_R_save_30 ?_
    refine cv_get9 (.inr (0, off 44 0)) hG v_13 fg_ProphecyShopModel_22_13 rfl rfl d_R_save_31 ?_
    refine cw_sipush 524 d_R_save_34 rfl ?_
    refine ev_iload_n (k0 := 1) rfl d_R_save_37 ?_
    refine ev_imul d_R_save_38 ?_
    refine ev_iload_n (k0 := 2) rfl d_R_save_39 ?_
    refine ev_iadd d_R_save_40 ?_
    refine ev_aload_n (k0 := 0) rfl d_R_save_41 ?_
    refine cv_get9 (.inr (0, off 40 0)) hG v_13 fg_ProphecyShopModel_7_13 rfl rfl d_R_save_42 ?_
    refine ev_iload_n (k0 := 2) rfl d_R_save_45 ?_
    obtain ⟨b1, h⟩ := chk_some h
    refine cv_iald hG v_40 rfl rfl b1 rfl d_R_save_46 ?_
    refine Ev.at (pc' := 47) rfl ?_
    obtain ⟨b2, h⟩ := chk_some h
    obtain ⟨μ3, e_μ3, h⟩ := nm_some h
    refine cv_iast hG okR v_44 rfl rfl b2 rfl d_R_save_47 ?_
    intro G hG; rw [← e_μ3] at hG
    refine cw_iincN 2 1 [some (.inr (0, off 13 0)), some (.inl (.int x1)), some (.inl (.int (x2 + 1)))] d_R_save_48 rfl rfl rfl rfl rfl ?_
    refine ev_goto (tgt := 23) (by decide) d_R_save_51 ?_
    exact kC _ (Option.some.inj h).symm G hG
set_option maxRecDepth 100000 in
set_option maxHeartbeats 4000000 in
theorem w_R_save {g : GL} {F G : RG} {nx : Nat} (d : Nat) {x1 : Int32} {μ : Mem}   {o : Int32 × Mem} (hG : LM vr 535 547 μ F G) (h : f_R_save x1 μ = some o) : Mt g (d + 1) m_R_save [.inr (0, off 13 0), .inl (.int x1)] (G, nx) 0 0 (pRW vr 535 547 (rI o.1) o.2 F nx) := by
  unfold f_R_save at h
  have kE : ∀ v, o = v → pRW vr 535 547 (rI o.1) o.2 F nx = pRW vr 535 547 (rI v.1) v.2 F nx := fun v e => by rw [e]
  refine Mt.of9 [some (.inr (0, off 13 0)), some (.inl (.int x1)), none] (by decide +kernel) rfl rfl rfl rfl ?_
  refine ev_aload_n (k0 := 0) rfl d_R_save_0 ?_
  refine cw_iconst 0 d_R_save_1 rfl ?_
  obtain ⟨μ1, e_μ1, h⟩ := nm_some h
  refine cv_put (.inl (.int 0)) 0 hG okR v_13 fl_ProphecyShopModel_73_13 rfl rfl okv_int d_R_save_2 ?_
  intro G hG; rw [← e_μ1] at hG
  refine ev_aload_n (k0 := 0) rfl d_R_save_5 ?_
  refine ev_iload_n (k0 := 1) rfl d_R_save_6 ?_
  refine cw_iconst 0 d_R_save_7 rfl ?_
  refine cw_iconst 1 d_R_save_8 rfl ?_
  obtain ⟨r2, hr2, h⟩ := bind_some9 h
  refine cw_S (d := d + 0) (mc1 := 0) (ms1 := 0) (mc := 0) (ms := 0) [.inl (.int x1), .inl (.int 0), .inl (.int 1)] lk_ProphecyShopModel_76 (w_R_in (d + 0) hG hr2) rfl rfl d_R_save_9 (aft_ro ?_)
  refine Ev.at (pc' := 12) rfl (Ev.cong (st' := [.inl (.int r2), .inr (0, off 13 0)]) ?_ rfl rfl)
  refine cw_iconst 1 d_R_save_12 rfl ?_
  obtain ⟨r3, hr3, h⟩ := bind_some9 h
  refine cv_V (d := d + 0) (mc1 := 0) (ms1 := 0) (mc := 0) (ms := 0) [.inl (.int r2), .inl (.int 1)] hG v_13 rfl lk_ProphecyShopModel_128 (w_R_right (d + 0) hG hr3) rfl rfl d_R_save_13 (aft_rw (fun G hG => ?_))
  refine Ev.at (pc' := 16) rfl (Ev.cong (st' := [.inl (.int r3.1)]) ?_ rfl rfl)
  refine ev_if_ne (tgt := 21) (by decide) d_R_save_16 (fun c => ?_) (fun c => ?_)
  · rw [if_neg c] at h
    refine cw_iconst 0 d_R_save_21 rfl ?_
    refine cw_istoreN_n 2 0 rfl [some (.inr (0, off 13 0)), some (.inl (.int x1)), some (.inl (.int 0))] d_R_save_22 rfl rfl rfl ?_
    obtain ⟨q4, hl, h⟩ := bind_some9 h
    refine it_ev (W := fun (s : Int32 × Mem) => ∀ G, LM vr 535 547 s.2 F G → Ev g (d + 1) m_R_save 23 [some (.inr (0, off 13 0)), some (.inl (.int x1)), some (.inl (.int s.1))] [] (G, nx) 0 0 (pRW vr 535 547 (rI o.1) o.2 F nx)) (X := fun z => z = q4) rfl (fun s9 o9 hs kC9 kX9 => ?_) LIM _ hl G hG
    intro G hG
    refine ws_R_save_23 d  hG hs kC9 (fun r_ e G hG => ?_)
    · obtain rfl := (kX9 _ e).symm
      refine ev_aload_n (k0 := 0) rfl d_R_save_54 ?_
      refine cv_get9 (.inr (0, off 45 0)) hG v_13 fg_ProphecyShopModel_25_13 rfl rfl d_R_save_55 ?_
      refine ev_iload_n (k0 := 1) rfl d_R_save_58 ?_
      refine cw_iconst 1 d_R_save_59 rfl ?_
      obtain ⟨b5, h⟩ := chk_some h
      obtain ⟨μ6, e_μ6, h⟩ := nm_some h
      refine cv_zast hG okR v_45 rfl rfl b5 rfl rfl d_R_save_60 ?_
      intro G hG; rw [← e_μ6] at hG
      refine ev_aload_n (k0 := 0) rfl d_R_save_61 ?_
      refine cv_get9 (.inr (0, off 40 0)) hG v_13 fg_ProphecyShopModel_7_13 rfl rfl d_R_save_62 ?_
      refine cw_iconst 5 d_R_save_65 rfl ?_
      obtain ⟨b7, h⟩ := chk_some h
      refine cv_iald hG v_40 rfl rfl b7 rfl d_R_save_66 ?_
      have hP := kE _ (Option.some.inj h).symm
      exact ev_ireturn (st := []) rfl rfl d_R_save_67 (by rw [hP]; exact ⟨rfl, hG, rfl⟩)
  · rw [if_pos c] at h
    refine cw_iconst 0 d_R_save_19 rfl ?_
    have hP := kE _ (Option.some.inj h).symm
    exact ev_ireturn (st := []) rfl rfl d_R_save_20 (by rw [hP]; exact ⟨rfl, hG, rfl⟩)

/-- ProphecyShopModel.readsRepeat -/
def f_R_readsRepeat (FF : Int32 → Mem → Option Mem) (x1 : Int32) (x2 : Int32) (μ : Mem) : Option (Mem) :=
  ((f_R_number 0 20 μ)).bind (fun r1 => ((f_R_lays x1 0 r1.1 r1.2)).bind (fun r2 => ((f_R_isSign 40 r2)).bind (fun r3 => ((f_R_must r3 1 r2)).bind (fun r4 => ((if r4.1 = 0 then (some (r4.2)) else (((if (2 : Int32) ≤ x2 then (some (0)) else (some (1)) : Option (Int32))).bind (fun q10 => ((f_R_must q10 4 r4.2)).bind (fun r11 => some (r11.2)))) : Option (Mem))).bind (fun q5 => ((f_R_goesOn q5)).bind (fun r6 => ((FF (x2 + 1) r6)).bind (fun r7 => ((f_R_takesSign 41 r7)).bind (fun r8 => ((f_R_lays x1 1 (r8 13 0 20) r8)).bind (fun r9 => some r9)))))))))
set_option maxRecDepth 100000 in
set_option maxHeartbeats 4000000 in
theorem w_R_readsRepeat {g : GL} {F G : RG} {nx : Nat} (d : Nat) {FF : Int32 → Mem → Option Mem} {x1 : Int32} {x2 : Int32} {μ : Mem}  (hSG : SG g) (hF : ∀ {G : RG} {x : Int32} {μ o : Mem}, LM vr 535 547 μ F G → FF x μ = some o → Mt g (d + 8) m_R_readsCommands [.inr (0, off 13 0), .inl (.int x)] (G, nx) 0 0 (pRW vr 535 547 rV o F nx)) {o : Mem} (hG : LM vr 535 547 μ F G) (h : f_R_readsRepeat FF x1 x2 μ = some o) : Mt g (d + 9) m_R_readsRepeat [.inr (0, off 13 0), .inl (.int x1), .inl (.int x2)] (G, nx) 0 0 (pRW vr 535 547 rV o F nx) := by
  unfold f_R_readsRepeat at h
  have kE : ∀ v, o = v → pRW vr 535 547 rV o F nx = pRW vr 535 547 rV v F nx := fun v e => by rw [e]
  refine Mt.of9 [some (.inr (0, off 13 0)), some (.inl (.int x1)), some (.inl (.int x2))] (by decide +kernel) rfl rfl rfl rfl ?_
  refine ev_aload_n (k0 := 0) rfl d_R_readsRepeat_0 ?_
  refine ev_iload_n (k0 := 1) rfl d_R_readsRepeat_1 ?_
  refine cw_iconst 0 d_R_readsRepeat_2 rfl ?_
  refine ev_aload_n (k0 := 0) rfl d_R_readsRepeat_3 ?_
  refine cw_iconst 0 d_R_readsRepeat_4 rfl ?_
  refine cw_bipush 20 d_R_readsRepeat_5 rfl ?_
  obtain ⟨r1, hr1, h⟩ := bind_some9 h
  refine cv_V (d := d + 8) (mc1 := 0) (ms1 := 0) (mc := 0) (ms := 0) [.inl (.int 0), .inl (.int 20)] hG v_13 rfl lk_ProphecyShopModel_208 (w_R_number (d + 5) hG hr1) rfl rfl d_R_readsRepeat_7 (aft_rw (fun G hG => ?_))
  refine Ev.at (pc' := 10) rfl (Ev.cong (st' := [.inl (.int r1.1), .inl (.int 0), .inl (.int x1), .inr (0, off 13 0)]) ?_ rfl rfl)
  obtain ⟨r2, hr2, h⟩ := bind_some9 h
  refine cv_V (d := d + 8) (mc1 := 0) (ms1 := 0) (mc := 0) (ms := 0) [.inl (.int x1), .inl (.int 0), .inl (.int r1.1)] hG v_13 rfl lk_ProphecyShopModel_246 (w_R_lays (d + 8) hG hr2) rfl rfl d_R_readsRepeat_10 (aft_rw (fun G hG => ?_))
  refine Ev.at (pc' := 13) rfl (Ev.cong (st' := []) ?_ rfl rfl)
  refine ev_aload_n (k0 := 0) rfl d_R_readsRepeat_13 ?_
  refine ev_aload_n (k0 := 0) rfl d_R_readsRepeat_14 ?_
  refine cw_bipush 40 d_R_readsRepeat_15 rfl ?_
  obtain ⟨r3, hr3, h⟩ := bind_some9 h
  refine cv_V (d := d + 8) (mc1 := 0) (ms1 := 0) (mc := 0) (ms := 0) [.inl (.int 40)] hG v_13 rfl lk_ProphecyShopModel_165 (w_R_isSign (d + 7) hG hr3) rfl rfl d_R_readsRepeat_17 (aft_ro ?_)
  refine Ev.at (pc' := 20) rfl (Ev.cong (st' := [.inl (.int r3), .inr (0, off 13 0)]) ?_ rfl rfl)
  refine cw_iconst 1 d_R_readsRepeat_20 rfl ?_
  obtain ⟨r4, hr4, h⟩ := bind_some9 h
  refine cv_V (d := d + 8) (mc1 := 0) (ms1 := 0) (mc := 0) (ms := 0) [.inl (.int r3), .inl (.int 1)] hG v_13 rfl lk_ProphecyShopModel_169 (w_R_must (d + 8) hG hr4) rfl rfl d_R_readsRepeat_21 (aft_rw (fun G hG => ?_))
  refine Ev.at (pc' := 24) rfl (Ev.cong (st' := [.inl (.int r4.1)]) ?_ rfl rfl)
  obtain ⟨q5, hj, h⟩ := bind_some9 h
  have K_q5 : ∀ G, LM vr 535 547 q5 F G → Ev g (d + 9) m_R_readsRepeat 43 [some (.inr (0, off 13 0)), some (.inl (.int x1)), some (.inl (.int x2))] [] (G, nx) 0 0 (pRW vr 535 547 rV o F nx) := by
    intro G hG
    refine ev_aload_n (k0 := 0) rfl d_R_readsRepeat_43 ?_
    obtain ⟨r6, hr6, h⟩ := bind_some9 h
    refine cv_V (d := d + 8) (mc1 := 0) (ms1 := 0) (mc := 0) (ms := 0) [] hG v_13 rfl lk_ProphecyShopModel_172 (w_R_goesOn (d + 6) hG hr6) rfl rfl d_R_readsRepeat_44 (aft_rw (fun G hG => ?_))
    refine Ev.at (pc' := 47) rfl (Ev.cong (st' := []) ?_ rfl rfl)
    refine ev_aload_n (k0 := 0) rfl d_R_readsRepeat_47 ?_
    refine ev_iload_n (k0 := 2) rfl d_R_readsRepeat_48 ?_
    refine cw_iconst 1 d_R_readsRepeat_49 rfl ?_
    refine ev_iadd d_R_readsRepeat_50 ?_
    obtain ⟨r7, hr7, h⟩ := bind_some9 h
    refine cv_V (d := d + 8) (mc1 := 0) (ms1 := 0) (mc := 0) (ms := 0) [.inl (.int (x2 + 1))] hG v_13 rfl lk_ProphecyShopModel_249 (hF  hG hr7) rfl rfl d_R_readsRepeat_51 (aft_rw (fun G hG => ?_))
    refine Ev.at (pc' := 54) rfl (Ev.cong (st' := []) ?_ rfl rfl)
    refine ev_aload_n (k0 := 0) rfl d_R_readsRepeat_54 ?_
    refine cw_bipush 41 d_R_readsRepeat_55 rfl ?_
    obtain ⟨r8, hr8, h⟩ := bind_some9 h
    refine cv_V (d := d + 8) (mc1 := 0) (ms1 := 0) (mc := 0) (ms := 0) [.inl (.int 41)] hG v_13 rfl lk_ProphecyShopModel_204 (w_R_takesSign (d + 5) hG hr8) rfl rfl d_R_readsRepeat_57 (aft_rw (fun G hG => ?_))
    refine Ev.at (pc' := 60) rfl (Ev.cong (st' := []) ?_ rfl rfl)
    refine ev_aload_n (k0 := 0) rfl d_R_readsRepeat_60 ?_
    refine ev_iload_n (k0 := 1) rfl d_R_readsRepeat_61 ?_
    refine cw_iconst 1 d_R_readsRepeat_62 rfl ?_
    refine ev_aload_n (k0 := 0) rfl d_R_readsRepeat_63 ?_
    refine cv_get9 (.inl (.int (r8 13 0 20))) hG v_13 fg_ProphecyShopModel_252_13 rfl rfl d_R_readsRepeat_64 ?_
    obtain ⟨r9, hr9, h⟩ := bind_some9 h
    refine cv_V (d := d + 8) (mc1 := 0) (ms1 := 0) (mc := 0) (ms := 0) [.inl (.int x1), .inl (.int 1), .inl (.int (r8 13 0 20))] hG v_13 rfl lk_ProphecyShopModel_246 (w_R_lays (d + 8) hG hr9) rfl rfl d_R_readsRepeat_67 (aft_rw (fun G hG => ?_))
    refine Ev.at (pc' := 70) rfl (Ev.cong (st' := []) ?_ rfl rfl)
    have hP := kE _ (Option.some.inj h).symm
    exact ev_return (st := []) rfl d_R_readsRepeat_70 (by rw [hP]; exact ⟨rfl, hG, rfl⟩)
  clear h
  have h := hj
  refine ev_if_eq (tgt := 43) (by decide) d_R_readsRepeat_24 (fun c => ?_) (fun c => ?_)
  · rw [if_pos c] at h
    obtain rfl := Option.some.inj h
    exact K_q5 G hG
  · rw [if_neg c] at h
    refine ev_aload_n (k0 := 0) rfl d_R_readsRepeat_27 ?_
    refine ev_iload_n (k0 := 2) rfl d_R_readsRepeat_28 ?_
    refine cw_iconst 2 d_R_readsRepeat_29 rfl ?_
    obtain ⟨q10, hj, h⟩ := bind_some9 h
    have K_q10 : Ev g (d + 9) m_R_readsRepeat 38 [some (.inr (0, off 13 0)), some (.inl (.int x1)), some (.inl (.int x2))] [.inl (.int q10), .inr (0, off 13 0)] (G, nx) 0 0 (pRW vr 535 547 rV o F nx) := by
      refine cw_iconst 4 d_R_readsRepeat_38 rfl ?_
      obtain ⟨r11, hr11, h⟩ := bind_some9 h
      refine cv_V (d := d + 8) (mc1 := 0) (ms1 := 0) (mc := 0) (ms := 0) [.inl (.int q10), .inl (.int 4)] hG v_13 rfl lk_ProphecyShopModel_169 (w_R_must (d + 8) hG hr11) rfl rfl d_R_readsRepeat_39 (aft_rw (fun G hG => ?_))
      refine Ev.at (pc' := 42) rfl (Ev.cong (st' := [.inl (.int r11.1)]) ?_ rfl rfl)
      refine ev_pop rfl d_R_readsRepeat_42 ?_
      obtain rfl := Option.some.inj h
      exact K_q5 G hG
    clear h
    have h := hj
    refine ev_icmp_ge (tgt := 37) (by decide) d_R_readsRepeat_30 (fun c => ?_) (fun c => ?_)
    · rw [if_pos c] at h
      refine cw_iconst 0 d_R_readsRepeat_37 rfl ?_
      obtain rfl := Option.some.inj h
      exact K_q10
    · rw [if_neg c] at h
      refine cw_iconst 1 d_R_readsRepeat_33 rfl ?_
      refine ev_goto (tgt := 38) (by decide) d_R_readsRepeat_34 ?_
      obtain rfl := Option.some.inj h
      exact K_q10

/-- ProphecyShopModel.readsCommand -/
def f_R_readsCommand (FF : Int32 → Mem → Option Mem) (x1 : Int32) (μ : Mem) : Option (Mem) :=
  ((f_R_commandHere μ)).bind (fun r1 => ((if r1 = ((-1)) then (some (0)) else (some (1)) : Option (Int32))).bind (fun q2 => ((f_R_must q2 1 μ)).bind (fun r3 => if r3.1 = 0 then some r3.2 else (((if (30 : Int32) ≤ (r3.2 13 0 20) then (some (0)) else (some (1)) : Option (Int32))).bind (fun q4 => ((f_R_must q4 4 r3.2)).bind (fun r5 => if r5.1 = 0 then some r5.2 else (nm (r5.2 13 0 20 : Int32) (fun v6 => chk (inb v6 30) (nm (st3 r5.2 47 0 v6.toNatClampNeg r1) (fun μ8 => nm (st3 μ8 13 0 20 ((μ8 13 0 20) + 1)) (fun μ9 => ((f_R_reads μ9)).bind (fun r10 => ((if r1 = 4 then (((f_R_readsRepeat FF v6 x1 r10)).bind (fun r14 => some (r14))) else (((f_R_readsSingle v6 r10)).bind (fun r13 => some (r13))) : Option (Mem))).bind (fun q11 => ((f_R_takesSign 59 q11)).bind (fun r12 => some r12))))))))))))))
set_option maxRecDepth 100000 in
set_option maxHeartbeats 4000000 in
theorem w_R_readsCommand {g : GL} {F G : RG} {nx : Nat} (d : Nat) {FF : Int32 → Mem → Option Mem} {x1 : Int32} {μ : Mem}  (hSG : SG g) (hF : ∀ {G : RG} {x : Int32} {μ o : Mem}, LM vr 535 547 μ F G → FF x μ = some o → Mt g (d + 8) m_R_readsCommands [.inr (0, off 13 0), .inl (.int x)] (G, nx) 0 0 (pRW vr 535 547 rV o F nx)) {o : Mem} (hG : LM vr 535 547 μ F G) (h : f_R_readsCommand FF x1 μ = some o) : Mt g (d + 10) m_R_readsCommand [.inr (0, off 13 0), .inl (.int x1)] (G, nx) 0 0 (pRW vr 535 547 rV o F nx) := by
  unfold f_R_readsCommand at h
  have kE : ∀ v, o = v → pRW vr 535 547 rV o F nx = pRW vr 535 547 rV v F nx := fun v e => by rw [e]
  refine Mt.of9 [some (.inr (0, off 13 0)), some (.inl (.int x1)), none, none] (by decide +kernel) rfl rfl rfl rfl ?_
  refine ev_aload_n (k0 := 0) rfl d_R_readsCommand_0 ?_
  obtain ⟨r1, hr1, h⟩ := bind_some9 h
  refine cv_V (d := d + 9) (mc1 := 0) (ms1 := 0) (mc := 0) (ms := 0) [] hG v_13 rfl lk_ProphecyShopModel_276 (w_R_commandHere (d + 2) hSG hG hr1) rfl rfl d_R_readsCommand_1 (aft_ro ?_)
  refine Ev.at (pc' := 4) rfl (Ev.cong (st' := [.inl (.int r1)]) ?_ rfl rfl)
  refine cw_istoreN_n 2 r1 rfl [some (.inr (0, off 13 0)), some (.inl (.int x1)), some (.inl (.int r1)), none] d_R_readsCommand_4 rfl rfl rfl ?_
  refine ev_aload_n (k0 := 0) rfl d_R_readsCommand_5 ?_
  refine ev_iload_n (k0 := 2) rfl d_R_readsCommand_6 ?_
  refine cw_iconst (-1) d_R_readsCommand_7 rfl ?_
  obtain ⟨q2, hj, h⟩ := bind_some9 h
  have K_q2 : Ev g (d + 10) m_R_readsCommand 16 [some (.inr (0, off 13 0)), some (.inl (.int x1)), some (.inl (.int r1)), none] [.inl (.int q2), .inr (0, off 13 0)] (G, nx) 0 0 (pRW vr 535 547 rV o F nx) := by
    refine cw_iconst 1 d_R_readsCommand_16 rfl ?_
    obtain ⟨r3, hr3, h⟩ := bind_some9 h
    refine cv_V (d := d + 9) (mc1 := 0) (ms1 := 0) (mc := 0) (ms := 0) [.inl (.int q2), .inl (.int 1)] hG v_13 rfl lk_ProphecyShopModel_169 (w_R_must (d + 9) hG hr3) rfl rfl d_R_readsCommand_17 (aft_rw (fun G hG => ?_))
    refine Ev.at (pc' := 20) rfl (Ev.cong (st' := [.inl (.int r3.1)]) ?_ rfl rfl)
    refine ev_if_eq (tgt := 45) (by decide) d_R_readsCommand_20 (fun c => ?_) (fun c => ?_)
    · rw [if_pos c] at h
      have hP := kE _ (Option.some.inj h).symm
      exact ev_return (st := []) rfl d_R_readsCommand_45 (by rw [hP]; exact ⟨rfl, hG, rfl⟩)
    · rw [if_neg c] at h
      refine ev_aload_n (k0 := 0) rfl d_R_readsCommand_23 ?_
      refine ev_aload_n (k0 := 0) rfl d_R_readsCommand_24 ?_
      refine cv_get9 (.inl (.int (r3.2 13 0 20))) hG v_13 fg_ProphecyShopModel_252_13 rfl rfl d_R_readsCommand_25 ?_
      refine cw_bipush 30 d_R_readsCommand_28 rfl ?_
      obtain ⟨q4, hj, h⟩ := bind_some9 h
      have K_q4 : Ev g (d + 10) m_R_readsCommand 38 [some (.inr (0, off 13 0)), some (.inl (.int x1)), some (.inl (.int r1)), none] [.inl (.int q4), .inr (0, off 13 0)] (G, nx) 0 0 (pRW vr 535 547 rV o F nx) := by
        refine cw_iconst 4 d_R_readsCommand_38 rfl ?_
        obtain ⟨r5, hr5, h⟩ := bind_some9 h
        refine cv_V (d := d + 9) (mc1 := 0) (ms1 := 0) (mc := 0) (ms := 0) [.inl (.int q4), .inl (.int 4)] hG v_13 rfl lk_ProphecyShopModel_169 (w_R_must (d + 9) hG hr5) rfl rfl d_R_readsCommand_39 (aft_rw (fun G hG => ?_))
        refine Ev.at (pc' := 42) rfl (Ev.cong (st' := [.inl (.int r5.1)]) ?_ rfl rfl)
        refine ev_if_ne (tgt := 46) (by decide) d_R_readsCommand_42 (fun c => ?_) (fun c => ?_)
        · rw [if_neg c] at h
          refine ev_aload_n (k0 := 0) rfl d_R_readsCommand_46 ?_
          refine cv_get9 (.inl (.int (r5.2 13 0 20))) hG v_13 fg_ProphecyShopModel_252_13 rfl rfl d_R_readsCommand_47 ?_
          obtain ⟨v6, e_v6, h⟩ := nm_some h
          refine cw_istoreN_n 3 v6 e_v6 [some (.inr (0, off 13 0)), some (.inl (.int x1)), some (.inl (.int r1)), some (.inl (.int v6))] d_R_readsCommand_50 rfl rfl rfl ?_
          refine ev_aload_n (k0 := 0) rfl d_R_readsCommand_51 ?_
          refine cv_get9 (.inr (0, off 47 0)) hG v_13 fg_ProphecyShopModel_36_13 rfl rfl d_R_readsCommand_52 ?_
          refine ev_iload_n (k0 := 3) rfl d_R_readsCommand_55 ?_
          refine ev_iload_n (k0 := 2) rfl d_R_readsCommand_56 ?_
          obtain ⟨b7, h⟩ := chk_some h
          obtain ⟨μ8, e_μ8, h⟩ := nm_some h
          refine cv_iast hG okR v_47 rfl rfl b7 rfl d_R_readsCommand_57 ?_
          intro G hG; rw [← e_μ8] at hG
          refine ev_aload_n (k0 := 0) rfl d_R_readsCommand_58 ?_
          refine ev_dup rfl d_R_readsCommand_59 ?_
          refine cv_get9 (.inl (.int (μ8 13 0 20))) hG v_13 fg_ProphecyShopModel_252_13 rfl rfl d_R_readsCommand_60 ?_
          refine Ev.at (pc' := 63) rfl ?_
          refine cw_iconst 1 d_R_readsCommand_63 rfl ?_
          refine ev_iadd d_R_readsCommand_64 ?_
          obtain ⟨μ9, e_μ9, h⟩ := nm_some h
          refine cv_put (.inl (.int ((μ8 13 0 20) + 1))) ((μ8 13 0 20) + 1) hG okR v_13 fl_ProphecyShopModel_252_13 rfl rfl okv_int d_R_readsCommand_65 ?_
          intro G hG; rw [← e_μ9] at hG
          refine ev_aload_n (k0 := 0) rfl d_R_readsCommand_68 ?_
          obtain ⟨r10, hr10, h⟩ := bind_some9 h
          refine cv_V (d := d + 9) (mc1 := 0) (ms1 := 0) (mc := 0) (ms := 0) [] hG v_13 rfl lk_ProphecyShopModel_162 (w_R_reads (d + 8) hG hr10) rfl rfl d_R_readsCommand_69 (aft_rw (fun G hG => ?_))
          refine Ev.at (pc' := 72) rfl (Ev.cong (st' := []) ?_ rfl rfl)
          refine ev_iload_n (k0 := 2) rfl d_R_readsCommand_72 ?_
          refine cw_iconst 4 d_R_readsCommand_73 rfl ?_
          obtain ⟨q11, hj, h⟩ := bind_some9 h
          have K_q11 : ∀ G, LM vr 535 547 q11 F G → Ev g (d + 10) m_R_readsCommand 91 [some (.inr (0, off 13 0)), none, none, none] [] (G, nx) 0 0 (pRW vr 535 547 rV o F nx) := by
            intro G hG
            refine ev_aload_n (k0 := 0) rfl d_R_readsCommand_91 ?_
            refine cw_bipush 59 d_R_readsCommand_92 rfl ?_
            obtain ⟨r12, hr12, h⟩ := bind_some9 h
            refine cv_V (d := d + 9) (mc1 := 0) (ms1 := 0) (mc := 0) (ms := 0) [.inl (.int 59)] hG v_13 rfl lk_ProphecyShopModel_204 (w_R_takesSign (d + 6) hG hr12) rfl rfl d_R_readsCommand_94 (aft_rw (fun G hG => ?_))
            refine Ev.at (pc' := 97) rfl (Ev.cong (st' := []) ?_ rfl rfl)
            have hP := kE _ (Option.some.inj h).symm
            exact ev_return (st := []) rfl d_R_readsCommand_97 (by rw [hP]; exact ⟨rfl, hG, rfl⟩)
          clear h
          have h := hj
          refine ev_icmp_ne (tgt := 86) (by decide) d_R_readsCommand_74 (fun c => ?_) (fun c => ?_)
          · rw [if_neg c] at h
            refine ev_aload_n (k0 := 0) rfl d_R_readsCommand_86 ?_
            refine ev_iload_n (k0 := 3) rfl d_R_readsCommand_87 ?_
            obtain ⟨r13, hr13, h⟩ := bind_some9 h
            refine cv_V (d := d + 9) (mc1 := 0) (ms1 := 0) (mc := 0) (ms := 0) [.inl (.int v6)] hG v_13 rfl lk_ProphecyShopModel_283 (w_R_readsSingle (d + 0) hSG hG hr13) rfl rfl d_R_readsCommand_88 (aft_rw (fun G hG => ?_))
            refine Ev.at (pc' := 91) rfl (Ev.cong (st' := []) ?_ rfl rfl)
            obtain rfl := Option.some.inj h
            exact Ev.sub (.s (.n (.n (.n LSb.z)))) (K_q11 G hG)
          · rw [if_pos c] at h
            refine ev_aload_n (k0 := 0) rfl d_R_readsCommand_77 ?_
            refine ev_iload_n (k0 := 3) rfl d_R_readsCommand_78 ?_
            refine ev_iload_n (k0 := 1) rfl d_R_readsCommand_79 ?_
            obtain ⟨r14, hr14, h⟩ := bind_some9 h
            refine cv_V (d := d + 9) (mc1 := 0) (ms1 := 0) (mc := 0) (ms := 0) [.inl (.int v6), .inl (.int x1)] hG v_13 rfl lk_ProphecyShopModel_279 (w_R_readsRepeat (d + 0) hSG hF hG hr14) rfl rfl d_R_readsCommand_80 (aft_rw (fun G hG => ?_))
            refine Ev.at (pc' := 83) rfl (Ev.cong (st' := []) ?_ rfl rfl)
            refine ev_goto (tgt := 91) (by decide) d_R_readsCommand_83 ?_
            obtain rfl := Option.some.inj h
            exact Ev.sub (.s (.n (.n (.n LSb.z)))) (K_q11 G hG)
        · rw [if_pos c] at h
          have hP := kE _ (Option.some.inj h).symm
          exact ev_return (st := []) rfl d_R_readsCommand_45 (by rw [hP]; exact ⟨rfl, hG, rfl⟩)
      clear h
      have h := hj
      refine ev_icmp_ge (tgt := 37) (by decide) d_R_readsCommand_30 (fun c => ?_) (fun c => ?_)
      · rw [if_pos c] at h
        refine cw_iconst 0 d_R_readsCommand_37 rfl ?_
        obtain rfl := Option.some.inj h
        exact K_q4
      · rw [if_neg c] at h
        refine cw_iconst 1 d_R_readsCommand_33 rfl ?_
        refine ev_goto (tgt := 38) (by decide) d_R_readsCommand_34 ?_
        obtain rfl := Option.some.inj h
        exact K_q4
  clear h
  have h := hj
  refine ev_icmp_eq (tgt := 15) (by decide) d_R_readsCommand_8 (fun c => ?_) (fun c => ?_)
  · rw [if_pos c] at h
    refine cw_iconst 0 d_R_readsCommand_15 rfl ?_
    obtain rfl := Option.some.inj h
    exact K_q2
  · rw [if_neg c] at h
    refine cw_iconst 1 d_R_readsCommand_11 rfl ?_
    refine ev_goto (tgt := 16) (by decide) d_R_readsCommand_12 ?_
    obtain rfl := Option.some.inj h
    exact K_q2

/-- ProphecyShopModel.readsCommands -/
def s_R_readsCommands_0 (FF : Int32 → Mem → Option Mem) (x1 : Int32)  (μ : Mem) : Option ((Mem) ⊕ (Mem)) :=
  if (μ 13 0 16) = 0 then (if (μ 13 0 14) = 0 then (some (.inr μ)) else (((f_R_isSign 41 μ)).bind (fun r1 => if r1 = 0 then (((f_R_readsCommand FF x1 μ)).bind (fun r2 => some (.inl r2))) else (some (.inr μ))))) else (some (.inr μ))
def f_R_readsCommands (FF : Int32 → Mem → Option Mem) (x1 : Int32) (μ : Mem) : Option (Mem) :=
  (it (fun (s : Mem) => s_R_readsCommands_0 FF x1 s) LIM μ).bind (fun q1 => some q1)
set_option maxRecDepth 100000 in
set_option maxHeartbeats 4000000 in
theorem ws_R_readsCommands_0 {g : GL} {F G : RG} {nx mc ms : Nat} {Post : RO → RM → Prop} (d : Nat) {FF : Int32 → Mem → Option Mem} {x1 : Int32}  {μ : Mem}  (hSG : SG g) (hF : ∀ {G : RG} {x : Int32} {μ o : Mem}, LM vr 535 547 μ F G → FF x μ = some o → Mt g (d + 8) m_R_readsCommands [.inr (0, off 13 0), .inl (.int x)] (G, nx) 0 0 (pRW vr 535 547 rV o F nx)) {o : (Mem) ⊕ (Mem)} (hG : LM vr 535 547 μ F G) (h : s_R_readsCommands_0 FF x1  μ = some o)
    (kC : ∀ s', o = .inl s' → ∀ G, LM vr 535 547 s' F G → Ev g (d + 11) m_R_readsCommands 0 [some (.inr (0, off 13 0)), some (.inl (.int x1))] [] (G, nx) mc ms Post)
    (kX : ∀ r, o = .inr r → ∀ G, LM vr 535 547 r F G → Ev g (d + 11) m_R_readsCommands 31 [none, none] [] (G, nx) mc ms Post)
    : Ev g (d + 11) m_R_readsCommands 0 [some (.inr (0, off 13 0)), some (.inl (.int x1))] [] (G, nx) mc ms Post := by
  unfold s_R_readsCommands_0 at h
  refine ev_aload_n (k0 := 0) rfl d_R_readsCommands_0 ?_
  refine cv_get9 (.inl (.int (μ 13 0 16))) hG v_13 fg_ProphecyShopModel_156_13 rfl rfl d_R_readsCommands_1 ?_
  refine ev_if_ne (tgt := 31) (by decide) d_R_readsCommands_4 (fun c => ?_) (fun c => ?_)
  · rw [if_neg c] at h
    exact Ev.sub (.n (.n LSb.z)) (kX _ (Option.some.inj h).symm G hG)
  · rw [if_pos c] at h
    refine ev_aload_n (k0 := 0) rfl d_R_readsCommands_7 ?_
    refine cv_get9 (.inl (.int (μ 13 0 14))) hG v_13 fg_ProphecyShopModel_144_13 rfl rfl d_R_readsCommands_8 ?_
    refine ev_if_eq (tgt := 31) (by decide) d_R_readsCommands_11 (fun c => ?_) (fun c => ?_)
    · rw [if_pos c] at h
      exact Ev.sub (.n (.n LSb.z)) (kX _ (Option.some.inj h).symm G hG)
    · rw [if_neg c] at h
      refine ev_aload_n (k0 := 0) rfl d_R_readsCommands_14 ?_
      refine cw_bipush 41 d_R_readsCommands_15 rfl ?_
      obtain ⟨r1, hr1, h⟩ := bind_some9 h
      refine Ev.z9 ?_
      refine cv_V (d := d + 10) (mc1 := 0) (ms1 := 0) (mc := mc) (ms := ms) [.inl (.int 41)] hG v_13 rfl lk_ProphecyShopModel_165 (w_R_isSign (d + 9) hG hr1) rfl rfl d_R_readsCommands_17 (aft_ro ?_)
      refine Ev.at (pc' := 20) rfl (Ev.cong (st' := [.inl (.int r1)]) ?_ rfl rfl)
      refine ev_if_ne (tgt := 31) (by decide) d_R_readsCommands_20 (fun c => ?_) (fun c => ?_)
      · rw [if_neg c] at h
        exact Ev.sub (.n (.n LSb.z)) (kX _ (Option.some.inj h).symm G hG)
      · rw [if_pos c] at h
        refine ev_aload_n (k0 := 0) rfl d_R_readsCommands_23 ?_
        refine ev_iload_n (k0 := 1) rfl d_R_readsCommands_24 ?_
        obtain ⟨r2, hr2, h⟩ := bind_some9 h
        refine Ev.z9 ?_
        refine cv_V (d := d + 10) (mc1 := 0) (ms1 := 0) (mc := mc) (ms := ms) [.inl (.int x1)] hG v_13 rfl lk_ProphecyShopModel_286 (w_R_readsCommand (d + 0) hSG hF hG hr2) rfl rfl d_R_readsCommands_25 (aft_rw (fun G hG => ?_))
        refine Ev.at (pc' := 28) rfl (Ev.cong (st' := []) ?_ rfl rfl)
        refine ev_goto (tgt := 0) (by decide) d_R_readsCommands_28 ?_
        exact kC _ (Option.some.inj h).symm G hG
set_option maxRecDepth 100000 in
set_option maxHeartbeats 4000000 in
theorem w_R_readsCommands {g : GL} {F G : RG} {nx : Nat} (d : Nat) {FF : Int32 → Mem → Option Mem} {x1 : Int32} {μ : Mem}  (hSG : SG g) (hF : ∀ {G : RG} {x : Int32} {μ o : Mem}, LM vr 535 547 μ F G → FF x μ = some o → Mt g (d + 8) m_R_readsCommands [.inr (0, off 13 0), .inl (.int x)] (G, nx) 0 0 (pRW vr 535 547 rV o F nx)) {o : Mem} (hG : LM vr 535 547 μ F G) (h : f_R_readsCommands FF x1 μ = some o) : Mt g (d + 11) m_R_readsCommands [.inr (0, off 13 0), .inl (.int x1)] (G, nx) 0 0 (pRW vr 535 547 rV o F nx) := by
  unfold f_R_readsCommands at h
  have kE : ∀ v, o = v → pRW vr 535 547 rV o F nx = pRW vr 535 547 rV v F nx := fun v e => by rw [e]
  refine Mt.of9 [some (.inr (0, off 13 0)), some (.inl (.int x1))] (by decide +kernel) rfl rfl rfl rfl ?_
  obtain ⟨q1, hl, h⟩ := bind_some9 h
  refine it_ev (W := fun (s : Mem) => ∀ G, LM vr 535 547 s F G → Ev g (d + 11) m_R_readsCommands 0 [some (.inr (0, off 13 0)), some (.inl (.int x1))] [] (G, nx) 0 0 (pRW vr 535 547 rV o F nx)) (X := fun z => z = q1) rfl (fun s9 o9 hs kC9 kX9 => ?_) LIM _ hl G hG
  intro G hG
  refine ws_R_readsCommands_0 d hSG hF hG hs kC9 (fun r_ e G hG => ?_)
  · obtain rfl := (kX9 _ e).symm
    have hP := kE _ (Option.some.inj h).symm
    exact ev_return (st := []) rfl d_R_readsCommands_31 (by rw [hP]; exact ⟨rfl, hG, rfl⟩)

/-- ProphecyShopModel.doesAll -/
def s_R_doesAll_20 (FF : Int32 → Int32 → Mem → Option (Int32 × Mem)) (x2 : Int32) (x3 : Int32) (x4 : Int32) (μ : Mem) : Option ((Int32 × Mem) ⊕ ((Mem) ⊕ (Int32 × Mem))) :=
  ((f_R_laid x3 0 μ)).bind (fun r1 => if r1 ≤ x4 then (some (.inr (.inl μ))) else (((f_R_laid x3 1 μ)).bind (fun r2 => ((FF (x3 + 1) r2 μ)).bind (fun r3 => if r3.1 = 0 then (some (.inr (.inr ((0, r3.2))))) else (some (.inl ((x4 + 1, r3.2))))))))
def s_R_doesAll_2 (FF : Int32 → Int32 → Mem → Option (Int32 × Mem)) (x2 : Int32) (x3 : Int32) (μ : Mem) : Option ((Int32 × Mem) ⊕ ((Mem) ⊕ (Int32 × Mem))) :=
  if x2 ≤ x3 then (some (.inr (.inl μ))) else (chk (inb x3 30) (if (μ 47 0 x3.toNatClampNeg) = 4 then ((it (fun (s : Int32 × Mem) => s_R_doesAll_20 FF x2 x3 s.1 s.2) LIM ((0, μ))).bind (fun q4 => els q4 (fun r5 => ((f_R_laid x3 1 r5)).bind (fun r6 => some (.inl ((r6, r5))))) (fun v => some (.inr (.inr v))))) else (if (μ 13 0 21) = 40 then (some (.inr (.inr ((0, μ))))) else (((f_R_does x3 μ)).bind (fun r2 => if (r2.2 13 0 7) = 0 then (nm (st3 r2.2 13 0 21 ((r2.2 13 0 21) + 1)) (fun μ3 => some (.inl ((x3 + 1, μ3))))) else (some (.inr (.inr ((0, r2.2))))))))))
def f_R_doesAll (FF : Int32 → Int32 → Mem → Option (Int32 × Mem)) (x1 : Int32) (x2 : Int32) (μ : Mem) : Option (Int32 × Mem) :=
  (it (fun (s : Int32 × Mem) => s_R_doesAll_2 FF x2 s.1 s.2) LIM ((x1, μ))).bind (fun q1 => els q1 (fun r2 => some ((1, r2))) (fun v => some v))
set_option maxRecDepth 100000 in
set_option maxHeartbeats 4000000 in
theorem ws_R_doesAll_20 {g : GL} {F G : RG} {nx mc ms : Nat} {Post : RO → RM → Prop} (d : Nat) {FF : Int32 → Int32 → Mem → Option (Int32 × Mem)} {x2 : Int32} {x3 : Int32} {x4 : Int32} {μ : Mem}  (hF : ∀ {G : RG} {x y : Int32} {μ : Mem} {o : Int32 × Mem}, LM vr 535 547 μ F G → FF x y μ = some o → Mt g (d + 6) m_R_doesAll [.inr (0, off 13 0), .inl (.int x), .inl (.int y)] (G, nx) 0 0 (pRW vr 535 547 (rI o.1) o.2 F nx)) {o : (Int32 × Mem) ⊕ ((Mem) ⊕ (Int32 × Mem))} (hG : LM vr 535 547 μ F G) (h : s_R_doesAll_20 FF x2 x3 x4 μ = some o)
    (kC : ∀ s', o = .inl s' → ∀ G, LM vr 535 547 s'.2 F G → Ev g (d + 7) m_R_doesAll 20 [some (.inr (0, off 13 0)), none, some (.inl (.int x2)), some (.inl (.int x3)), some (.inl (.int s'.1))] [] (G, nx) mc ms Post)
    (kX : ∀ r, o = .inr (.inl r) → ∀ G, LM vr 535 547 r F G → Ev g (d + 7) m_R_doesAll 55 [some (.inr (0, off 13 0)), none, some (.inl (.int x2)), some (.inl (.int x3)), none] [] (G, nx) mc ms Post)
    (kE : ∀ v, o = .inr (.inr v) → Post = pRW vr 535 547 (rI v.1) v.2 F nx) : Ev g (d + 7) m_R_doesAll 20 [some (.inr (0, off 13 0)), none, some (.inl (.int x2)), some (.inl (.int x3)), some (.inl (.int x4))] [] (G, nx) mc ms Post := by
  unfold s_R_doesAll_20 at h
  refine ev_iload (i := 4) rfl d_R_doesAll_20 ?_
  refine ev_aload_n (k0 := 0) rfl d_R_doesAll_22 ?_
  refine ev_iload_n (k0 := 3) rfl d_R_doesAll_23 ?_
  refine cw_iconst 0 d_R_doesAll_24 rfl ?_
  obtain ⟨r1, hr1, h⟩ := bind_some9 h
  refine Ev.z9 ?_
  refine cv_V (d := d + 6) (mc1 := 0) (ms1 := 0) (mc := mc) (ms := ms) [.inl (.int x3), .inl (.int 0)] hG v_13 rfl lk_ProphecyShopModel_289 (w_R_laid (d + 6) hG hr1) rfl rfl d_R_doesAll_25 (aft_ro ?_)
  refine Ev.at (pc' := 28) rfl (Ev.cong (st' := [.inl (.int r1), .inl (.int x4)]) ?_ rfl rfl)
  refine ev_icmp_ge (tgt := 55) (by decide) d_R_doesAll_28 (fun c => ?_) (fun c => ?_)
  · rw [if_pos c] at h
    exact Ev.sub (.s (.n (.s (.s (.n LSb.z))))) (kX _ (Option.some.inj h).symm G hG)
  · rw [if_neg c] at h
    refine ev_aload_n (k0 := 0) rfl d_R_doesAll_31 ?_
    refine ev_iload_n (k0 := 3) rfl d_R_doesAll_32 ?_
    refine cw_iconst 1 d_R_doesAll_33 rfl ?_
    refine ev_iadd d_R_doesAll_34 ?_
    refine ev_aload_n (k0 := 0) rfl d_R_doesAll_35 ?_
    refine ev_iload_n (k0 := 3) rfl d_R_doesAll_36 ?_
    refine cw_iconst 1 d_R_doesAll_37 rfl ?_
    obtain ⟨r2, hr2, h⟩ := bind_some9 h
    refine Ev.z9 ?_
    refine cv_V (d := d + 6) (mc1 := 0) (ms1 := 0) (mc := mc) (ms := ms) [.inl (.int x3), .inl (.int 1)] hG v_13 rfl lk_ProphecyShopModel_289 (w_R_laid (d + 6) hG hr2) rfl rfl d_R_doesAll_38 (aft_ro ?_)
    refine Ev.at (pc' := 41) rfl (Ev.cong (st' := [.inl (.int r2), .inl (.int (x3 + 1)), .inr (0, off 13 0)]) ?_ rfl rfl)
    obtain ⟨r3, hr3, h⟩ := bind_some9 h
    refine Ev.z9 ?_
    refine cv_V (d := d + 6) (mc1 := 0) (ms1 := 0) (mc := mc) (ms := ms) [.inl (.int (x3 + 1)), .inl (.int r2)] hG v_13 rfl lk_ProphecyShopModel_307 (hF  hG hr3) rfl rfl d_R_doesAll_41 (aft_rw (fun G hG => ?_))
    refine Ev.at (pc' := 44) rfl (Ev.cong (st' := [.inl (.int r3.1)]) ?_ rfl rfl)
    refine ev_if_ne (tgt := 49) (by decide) d_R_doesAll_44 (fun c => ?_) (fun c => ?_)
    · rw [if_neg c] at h
      refine cw_iincN 4 1 [some (.inr (0, off 13 0)), none, some (.inl (.int x2)), some (.inl (.int x3)), some (.inl (.int (x4 + 1)))] d_R_doesAll_49 rfl rfl rfl rfl rfl ?_
      refine ev_goto (tgt := 20) (by decide) d_R_doesAll_52 ?_
      exact kC _ (Option.some.inj h).symm G hG
    · rw [if_pos c] at h
      refine cw_iconst 0 d_R_doesAll_47 rfl ?_
      have hP := kE _ (Option.some.inj h).symm
      exact ev_ireturn (st := []) rfl rfl d_R_doesAll_48 (by rw [hP]; exact ⟨rfl, hG, rfl⟩)
set_option maxRecDepth 100000 in
set_option maxHeartbeats 4000000 in
theorem ws_R_doesAll_2 {g : GL} {F G : RG} {nx mc ms : Nat} {Post : RO → RM → Prop} (d : Nat) {FF : Int32 → Int32 → Mem → Option (Int32 × Mem)} {x2 : Int32} {x3 : Int32} {μ : Mem}  (hF : ∀ {G : RG} {x y : Int32} {μ : Mem} {o : Int32 × Mem}, LM vr 535 547 μ F G → FF x y μ = some o → Mt g (d + 6) m_R_doesAll [.inr (0, off 13 0), .inl (.int x), .inl (.int y)] (G, nx) 0 0 (pRW vr 535 547 (rI o.1) o.2 F nx)) {o : (Int32 × Mem) ⊕ ((Mem) ⊕ (Int32 × Mem))} (hG : LM vr 535 547 μ F G) (h : s_R_doesAll_2 FF x2 x3 μ = some o)
    (kC : ∀ s', o = .inl s' → ∀ G, LM vr 535 547 s'.2 F G → Ev g (d + 7) m_R_doesAll 2 [some (.inr (0, off 13 0)), none, some (.inl (.int x2)), some (.inl (.int s'.1)), none] [] (G, nx) mc ms Post)
    (kX : ∀ r, o = .inr (.inl r) → ∀ G, LM vr 535 547 r F G → Ev g (d + 7) m_R_doesAll 108 [none, none, none, none, none] [] (G, nx) mc ms Post)
    (kE : ∀ v, o = .inr (.inr v) → Post = pRW vr 535 547 (rI v.1) v.2 F nx) : Ev g (d + 7) m_R_doesAll 2 [some (.inr (0, off 13 0)), none, some (.inl (.int x2)), some (.inl (.int x3)), none] [] (G, nx) mc ms Post := by
  unfold s_R_doesAll_2 at h
  refine ev_iload_n (k0 := 3) rfl d_R_doesAll_2 ?_
  refine ev_iload_n (k0 := 2) rfl d_R_doesAll_3 ?_
  refine ev_icmp_ge (tgt := 108) (by decide) d_R_doesAll_4 (fun c => ?_) (fun c => ?_)
  · rw [if_pos c] at h
    exact Ev.sub (.n (.n (.n (.n (.n LSb.z))))) (kX _ (Option.some.inj h).symm G hG)
  · rw [if_neg c] at h
    refine ev_aload_n (k0 := 0) rfl d_R_doesAll_7 ?_
    refine cv_get9 (.inr (0, off 47 0)) hG v_13 fg_ProphecyShopModel_36_13 rfl rfl d_R_doesAll_8 ?_
    refine ev_iload_n (k0 := 3) rfl d_R_doesAll_11 ?_
    obtain ⟨b1, h⟩ := chk_some h
    refine cv_iald hG v_47 rfl rfl b1 rfl d_R_doesAll_12 ?_
    refine cw_iconst 4 d_R_doesAll_13 rfl ?_
    refine ev_icmp_ne (tgt := 65) (by decide) d_R_doesAll_14 (fun c => ?_) (fun c => ?_)
    · rw [if_neg c] at h
      refine ev_aload_n (k0 := 0) rfl d_R_doesAll_65 ?_
      refine cv_get9 (.inl (.int (μ 13 0 21))) hG v_13 fg_ProphecyShopModel_311_13 rfl rfl d_R_doesAll_66 ?_
      refine cw_bipush 40 d_R_doesAll_69 rfl ?_
      refine ev_icmp_ne (tgt := 76) (by decide) d_R_doesAll_71 (fun c => ?_) (fun c => ?_)
      · rw [if_neg c] at h
        refine ev_aload_n (k0 := 0) rfl d_R_doesAll_76 ?_
        refine ev_iload_n (k0 := 3) rfl d_R_doesAll_77 ?_
        obtain ⟨r2, hr2, h⟩ := bind_some9 h
        refine Ev.z9 ?_
        refine cv_V (d := d + 6) (mc1 := 0) (ms1 := 0) (mc := mc) (ms := ms) [.inl (.int x3)] hG v_13 rfl lk_ProphecyShopModel_314 (w_R_does (d + 0) hG hr2) rfl rfl d_R_doesAll_78 (aft_rw (fun G hG => ?_))
        refine Ev.at (pc' := 81) rfl (Ev.cong (st' := [.inl (.int r2.1)]) ?_ rfl rfl)
        refine cw_istoreN 4 r2.1 rfl [some (.inr (0, off 13 0)), none, some (.inl (.int x2)), some (.inl (.int x3)), some (.inl (.int r2.1))] d_R_doesAll_81 rfl rfl rfl ?_
        refine ev_aload_n (k0 := 0) rfl d_R_doesAll_83 ?_
        refine cv_get9 (.inl (.int (r2.2 13 0 7))) hG v_13 fg_ProphecyShopModel_73_13 rfl rfl d_R_doesAll_84 ?_
        refine ev_if_eq (tgt := 92) (by decide) d_R_doesAll_87 (fun c => ?_) (fun c => ?_)
        · rw [if_pos c] at h
          refine ev_aload_n (k0 := 0) rfl d_R_doesAll_92 ?_
          refine ev_dup rfl d_R_doesAll_93 ?_
          refine cv_get9 (.inl (.int (r2.2 13 0 21))) hG v_13 fg_ProphecyShopModel_311_13 rfl rfl d_R_doesAll_94 ?_
          refine cw_iconst 1 d_R_doesAll_97 rfl ?_
          refine ev_iadd d_R_doesAll_98 ?_
          obtain ⟨μ3, e_μ3, h⟩ := nm_some h
          refine cv_put (.inl (.int ((r2.2 13 0 21) + 1))) ((r2.2 13 0 21) + 1) hG okR v_13 fl_ProphecyShopModel_311_13 rfl rfl okv_int d_R_doesAll_99 ?_
          intro G hG; rw [← e_μ3] at hG
          refine cw_iincN 3 1 [some (.inr (0, off 13 0)), none, some (.inl (.int x2)), some (.inl (.int (x3 + 1))), some (.inl (.int r2.1))] d_R_doesAll_102 rfl rfl rfl rfl rfl ?_
          refine ev_goto (tgt := 2) (by decide) d_R_doesAll_105 ?_
          exact Ev.sub (.s (.n (.s (.s (.n LSb.z))))) (kC _ (Option.some.inj h).symm G hG)
        · rw [if_neg c] at h
          refine cw_iconst 0 d_R_doesAll_90 rfl ?_
          have hP := kE _ (Option.some.inj h).symm
          exact ev_ireturn (st := []) rfl rfl d_R_doesAll_91 (by rw [hP]; exact ⟨rfl, hG, rfl⟩)
      · rw [if_pos c] at h
        refine cw_iconst 0 d_R_doesAll_74 rfl ?_
        have hP := kE _ (Option.some.inj h).symm
        exact ev_ireturn (st := []) rfl rfl d_R_doesAll_75 (by rw [hP]; exact ⟨rfl, hG, rfl⟩)
    · rw [if_pos c] at h
      refine cw_iconst 0 d_R_doesAll_17 rfl ?_
      refine cw_istoreN 4 0 rfl [some (.inr (0, off 13 0)), none, some (.inl (.int x2)), some (.inl (.int x3)), some (.inl (.int 0))] d_R_doesAll_18 rfl rfl rfl ?_
      obtain ⟨q4, hl, h⟩ := bind_some9 h
      refine it_ev (W := fun (s : Int32 × Mem) => ∀ G, LM vr 535 547 s.2 F G → Ev g (d + 7) m_R_doesAll 20 [some (.inr (0, off 13 0)), none, some (.inl (.int x2)), some (.inl (.int x3)), some (.inl (.int s.1))] [] (G, nx) mc ms Post) (X := fun z => z = q4) rfl (fun s9 o9 hs kC9 kX9 => ?_) LIM _ hl G hG
      intro G hG
      refine ws_R_doesAll_20 d hF hG hs kC9 (fun r5 e G hG => ?_) (fun v e => ?_)
      · obtain rfl := kX9 _ e
        rw [els_l] at h
        refine ev_aload_n (k0 := 0) rfl d_R_doesAll_55 ?_
        refine ev_iload_n (k0 := 3) rfl d_R_doesAll_56 ?_
        refine cw_iconst 1 d_R_doesAll_57 rfl ?_
        obtain ⟨r6, hr6, h⟩ := bind_some9 h
        refine Ev.z9 ?_
        refine cv_V (d := d + 6) (mc1 := 0) (ms1 := 0) (mc := mc) (ms := ms) [.inl (.int x3), .inl (.int 1)] hG v_13 rfl lk_ProphecyShopModel_289 (w_R_laid (d + 6) hG hr6) rfl rfl d_R_doesAll_58 (aft_ro ?_)
        refine Ev.at (pc' := 61) rfl (Ev.cong (st' := [.inl (.int r6)]) ?_ rfl rfl)
        refine cw_istoreN_n 3 r6 rfl [some (.inr (0, off 13 0)), none, some (.inl (.int x2)), some (.inl (.int r6)), none] d_R_doesAll_61 rfl rfl rfl ?_
        refine ev_goto (tgt := 2) (by decide) d_R_doesAll_62 ?_
        exact kC _ (Option.some.inj h).symm G hG
      · obtain rfl := kX9 _ e
        rw [els_r] at h
        exact kE _ (Option.some.inj h).symm
set_option maxRecDepth 100000 in
set_option maxHeartbeats 4000000 in
theorem w_R_doesAll {g : GL} {F G : RG} {nx : Nat} (d : Nat) {FF : Int32 → Int32 → Mem → Option (Int32 × Mem)} {x1 : Int32} {x2 : Int32} {μ : Mem}  (hF : ∀ {G : RG} {x y : Int32} {μ : Mem} {o : Int32 × Mem}, LM vr 535 547 μ F G → FF x y μ = some o → Mt g (d + 6) m_R_doesAll [.inr (0, off 13 0), .inl (.int x), .inl (.int y)] (G, nx) 0 0 (pRW vr 535 547 (rI o.1) o.2 F nx)) {o : Int32 × Mem} (hG : LM vr 535 547 μ F G) (h : f_R_doesAll FF x1 x2 μ = some o) : Mt g (d + 7) m_R_doesAll [.inr (0, off 13 0), .inl (.int x1), .inl (.int x2)] (G, nx) 0 0 (pRW vr 535 547 (rI o.1) o.2 F nx) := by
  unfold f_R_doesAll at h
  have kE : ∀ v, o = v → pRW vr 535 547 (rI o.1) o.2 F nx = pRW vr 535 547 (rI v.1) v.2 F nx := fun v e => by rw [e]
  refine Mt.of9 [some (.inr (0, off 13 0)), some (.inl (.int x1)), some (.inl (.int x2)), none, none] (by decide +kernel) rfl rfl rfl rfl ?_
  refine ev_iload_n (k0 := 1) rfl d_R_doesAll_0 ?_
  refine cw_istoreN_n 3 x1 rfl [some (.inr (0, off 13 0)), some (.inl (.int x1)), some (.inl (.int x2)), some (.inl (.int x1)), none] d_R_doesAll_1 rfl rfl rfl ?_
  obtain ⟨q1, hl, h⟩ := bind_some9 h
  refine Ev.sub (ls' := [some (.inr (0, off 13 0)), none, some (.inl (.int x2)), some (.inl (.int x1)), none]) (.s (.n (.s (.s (.n LSb.z))))) ?_
  refine it_ev (W := fun (s : Int32 × Mem) => ∀ G, LM vr 535 547 s.2 F G → Ev g (d + 7) m_R_doesAll 2 [some (.inr (0, off 13 0)), none, some (.inl (.int x2)), some (.inl (.int s.1)), none] [] (G, nx) 0 0 (pRW vr 535 547 (rI o.1) o.2 F nx)) (X := fun z => z = q1) rfl (fun s9 o9 hs kC9 kX9 => ?_) LIM _ hl G hG
  intro G hG
  refine ws_R_doesAll_2 d hF hG hs kC9 (fun r2 e G hG => ?_) (fun v e => ?_)
  · obtain rfl := kX9 _ e
    rw [els_l] at h
    refine cw_iconst 1 d_R_doesAll_108 rfl ?_
    have hP := kE _ (Option.some.inj h).symm
    exact ev_ireturn (st := []) rfl rfl d_R_doesAll_109 (by rw [hP]; exact ⟨rfl, hG, rfl⟩)
  · obtain rfl := kX9 _ e
    rw [els_r] at h
    exact kE _ (Option.some.inj h).symm
def f_R_rcs : Nat → Int32 → Mem → Option Mem
  | 0 => fun _ _ => none
  | n + 1 => fun x μ => f_R_readsCommands (f_R_rcs n) x μ
theorem w_R_rcs {g : GL} {F : RG} {nx : Nat} (hSG : SG g) : ∀ (n d : Nat) {G : RG} {x : Int32} {μ o : Mem}, LM vr 535 547 μ F G → f_R_rcs n x μ = some o → Mt g (d + 8 + 3 * n) m_R_readsCommands [.inr (0, off 13 0), .inl (.int x)] (G, nx) 0 0 (pRW vr 535 547 rV o F nx)
  | 0, _, _, _, _, _, _, h => by cases h
  | n + 1, d, _, _, _, _, hG, h => by
    have h1 := w_R_readsCommands (g := g) (nx := nx) (FF := f_R_rcs n) (d + 3 * n) hSG (fun hG h => by have h2 := w_R_rcs (g := g) (nx := nx) hSG n d hG h; rwa [show d + 8 + 3 * n = d + 3 * n + 8 by omega] at h2) hG h
    rwa [show d + 3 * n + 11 = d + 8 + 3 * (n + 1) by omega] at h1
def f_R_das : Nat → Int32 → Int32 → Mem → Option (Int32 × Mem)
  | 0 => fun _ _ _ => none
  | n + 1 => fun x y μ => f_R_doesAll (f_R_das n) x y μ
theorem w_R_das {g : GL} {F : RG} {nx : Nat} : ∀ (n d : Nat) {G : RG} {x y : Int32} {μ : Mem} {o : Int32 × Mem}, LM vr 535 547 μ F G → f_R_das n x y μ = some o → Mt g (d + 6 + n) m_R_doesAll [.inr (0, off 13 0), .inl (.int x), .inl (.int y)] (G, nx) 0 0 (pRW vr 535 547 (rI o.1) o.2 F nx)
  | 0, _, _, _, _, _, _, _, h => by cases h
  | n + 1, d, _, _, _, _, _, hG, h => by
    have h1 := w_R_doesAll (g := g) (nx := nx) (FF := f_R_das n) (d + n) (fun hG h => by have h2 := w_R_das (g := g) (nx := nx) n d hG h; rwa [show d + 6 + n = d + n + 6 by omega] at h2) hG h
    rwa [show d + n + 7 = d + 6 + (n + 1) by omega] at h1
theorem w_R_rcs5 {g : GL} {F G : RG} {nx : Nat} (d : Nat) (hSG : SG g) {x : Int32} {μ o : Mem} (hG : LM vr 535 547 μ F G) (h : f_R_rcs 5 x μ = some o) : Mt g (d + 23) m_R_readsCommands [.inr (0, off 13 0), .inl (.int x)] (G, nx) 0 0 (pRW vr 535 547 rV o F nx) := w_R_rcs hSG 5 d hG h
theorem w_R_das4 {g : GL} {F G : RG} {nx : Nat} (d : Nat) {x y : Int32} {μ : Mem} {o : Int32 × Mem} (hG : LM vr 535 547 μ F G) (h : f_R_das 4 x y μ = some o) : Mt g (d + 10) m_R_doesAll [.inr (0, off 13 0), .inl (.int x), .inl (.int y)] (G, nx) 0 0 (pRW vr 535 547 (rI o.1) o.2 F nx) := w_R_das 4 d hG h
/-- ProphecyShopModel.runScript -/
def f_R_runScript  (μ : Mem) : Option (Int32 × Mem) :=
  nm (st3 μ 13 0 7 0) (fun μ1 => ((f_R_starts μ1)).bind (fun r2 => nm (st3 r2 13 0 20 0) (fun μ3 => ((f_R_rcs 5 0 μ3)).bind (fun r4 => ((if (r4 13 0 14) = 0 then (some (1)) else (some (0)) : Option (Int32))).bind (fun q5 => ((f_R_must q5 1 r4)).bind (fun r6 => ((f_R_isWhole r6.2)).bind (fun r7 => if r7.1 = 0 then (some (((-1), r7.2))) else (((f_R_keeps r7.2)).bind (fun r8 => nm (st3 r8 13 0 22 1) (fun μ9 => nm (st3 μ9 13 0 21 0) (fun μ10 => ((f_R_das 4 0 (μ10 13 0 20) μ10)).bind (fun r11 => nm (st3 r11.2 13 0 22 0) (fun μ12 => nm (st3 μ12 13 0 7 0) (fun μ13 => some ((μ13 13 0 21, μ13))))))))))))))))
set_option maxRecDepth 100000 in
set_option maxHeartbeats 4000000 in
theorem w_R_runScript {g : GL} {F G : RG} {nx : Nat} (d : Nat)  {μ : Mem}  (hSG : SG g) {o : Int32 × Mem} (hG : LM vr 535 547 μ F G) (h : f_R_runScript  μ = some o) : Mt g (d + 24) m_R_runScript [.inr (0, off 13 0)] (G, nx) 0 0 (pRW vr 535 547 (rI o.1) o.2 F nx) := by
  unfold f_R_runScript at h
  have kE : ∀ v, o = v → pRW vr 535 547 (rI o.1) o.2 F nx = pRW vr 535 547 (rI v.1) v.2 F nx := fun v e => by rw [e]
  refine Mt.of9 [some (.inr (0, off 13 0)), none] (by decide +kernel) rfl rfl rfl rfl ?_
  refine ev_aload_n (k0 := 0) rfl d_R_runScript_0 ?_
  refine cw_iconst 0 d_R_runScript_1 rfl ?_
  obtain ⟨μ1, e_μ1, h⟩ := nm_some h
  refine cv_put (.inl (.int 0)) 0 hG okR v_13 fl_ProphecyShopModel_73_13 rfl rfl okv_int d_R_runScript_2 ?_
  intro G hG; rw [← e_μ1] at hG
  refine ev_aload_n (k0 := 0) rfl d_R_runScript_5 ?_
  obtain ⟨r2, hr2, h⟩ := bind_some9 h
  refine cv_V (d := d + 23) (mc1 := 0) (ms1 := 0) (mc := 0) (ms := 0) [] hG v_13 rfl lk_ProphecyShopModel_67 (w_R_starts (d + 21) hG hr2) rfl rfl d_R_runScript_6 (aft_rw (fun G hG => ?_))
  refine Ev.at (pc' := 9) rfl (Ev.cong (st' := []) ?_ rfl rfl)
  refine ev_aload_n (k0 := 0) rfl d_R_runScript_9 ?_
  refine cw_iconst 0 d_R_runScript_10 rfl ?_
  obtain ⟨μ3, e_μ3, h⟩ := nm_some h
  refine cv_put (.inl (.int 0)) 0 hG okR v_13 fl_ProphecyShopModel_252_13 rfl rfl okv_int d_R_runScript_11 ?_
  intro G hG; rw [← e_μ3] at hG
  refine ev_aload_n (k0 := 0) rfl d_R_runScript_14 ?_
  refine cw_iconst 0 d_R_runScript_15 rfl ?_
  obtain ⟨r4, hr4, h⟩ := bind_some9 h
  refine cv_V (d := d + 23) (mc1 := 0) (ms1 := 0) (mc := 0) (ms := 0) [.inl (.int 0)] hG v_13 rfl lk_ProphecyShopModel_249 (w_R_rcs5 (d + 0) hSG hG hr4) rfl rfl d_R_runScript_16 (aft_rw (fun G hG => ?_))
  refine Ev.at (pc' := 19) rfl (Ev.cong (st' := []) ?_ rfl rfl)
  refine ev_aload_n (k0 := 0) rfl d_R_runScript_19 ?_
  refine ev_aload_n (k0 := 0) rfl d_R_runScript_20 ?_
  refine cv_get9 (.inl (.int (r4 13 0 14))) hG v_13 fg_ProphecyShopModel_144_13 rfl rfl d_R_runScript_21 ?_
  obtain ⟨q5, hj, h⟩ := bind_some9 h
  have K_q5 : Ev g (d + 24) m_R_runScript 32 [some (.inr (0, off 13 0)), none] [.inl (.int q5), .inr (0, off 13 0)] (G, nx) 0 0 (pRW vr 535 547 (rI o.1) o.2 F nx) := by
    refine cw_iconst 1 d_R_runScript_32 rfl ?_
    obtain ⟨r6, hr6, h⟩ := bind_some9 h
    refine cv_V (d := d + 23) (mc1 := 0) (ms1 := 0) (mc := 0) (ms := 0) [.inl (.int q5), .inl (.int 1)] hG v_13 rfl lk_ProphecyShopModel_169 (w_R_must (d + 23) hG hr6) rfl rfl d_R_runScript_33 (aft_rw (fun G hG => ?_))
    refine Ev.at (pc' := 36) rfl (Ev.cong (st' := [.inl (.int r6.1)]) ?_ rfl rfl)
    refine ev_pop rfl d_R_runScript_36 ?_
    refine ev_aload_n (k0 := 0) rfl d_R_runScript_37 ?_
    obtain ⟨r7, hr7, h⟩ := bind_some9 h
    refine cv_V (d := d + 23) (mc1 := 0) (ms1 := 0) (mc := 0) (ms := 0) [] hG v_13 rfl lk_ProphecyShopModel_230 (w_R_isWhole (d + 23) hG hr7) rfl rfl d_R_runScript_38 (aft_rw (fun G hG => ?_))
    refine Ev.at (pc' := 41) rfl (Ev.cong (st' := [.inl (.int r7.1)]) ?_ rfl rfl)
    refine ev_if_ne (tgt := 46) (by decide) d_R_runScript_41 (fun c => ?_) (fun c => ?_)
    · rw [if_neg c] at h
      refine ev_aload_n (k0 := 0) rfl d_R_runScript_46 ?_
      obtain ⟨r8, hr8, h⟩ := bind_some9 h
      refine cv_V (d := d + 23) (mc1 := 0) (ms1 := 0) (mc := 0) (ms := 0) [] hG v_13 rfl lk_ProphecyShopModel_317 (w_R_keeps (d + 23) hG hr8) rfl rfl d_R_runScript_47 (aft_rw (fun G hG => ?_))
      refine Ev.at (pc' := 50) rfl (Ev.cong (st' := []) ?_ rfl rfl)
      refine ev_aload_n (k0 := 0) rfl d_R_runScript_50 ?_
      refine cw_iconst 1 d_R_runScript_51 rfl ?_
      obtain ⟨μ9, e_μ9, h⟩ := nm_some h
      refine cv_put (.inl (.int 1)) 1 hG okR v_13 fl_ProphecyShopModel_320_13 rfl rfl (okv_bool rfl) d_R_runScript_52 ?_
      intro G hG; rw [← e_μ9] at hG
      refine ev_aload_n (k0 := 0) rfl d_R_runScript_55 ?_
      refine cw_iconst 0 d_R_runScript_56 rfl ?_
      obtain ⟨μ10, e_μ10, h⟩ := nm_some h
      refine cv_put (.inl (.int 0)) 0 hG okR v_13 fl_ProphecyShopModel_311_13 rfl rfl okv_int d_R_runScript_57 ?_
      intro G hG; rw [← e_μ10] at hG
      refine ev_aload_n (k0 := 0) rfl d_R_runScript_60 ?_
      refine cw_iconst 0 d_R_runScript_61 rfl ?_
      refine ev_aload_n (k0 := 0) rfl d_R_runScript_62 ?_
      refine cv_get9 (.inl (.int (μ10 13 0 20))) hG v_13 fg_ProphecyShopModel_252_13 rfl rfl d_R_runScript_63 ?_
      obtain ⟨r11, hr11, h⟩ := bind_some9 h
      refine cv_V (d := d + 23) (mc1 := 0) (ms1 := 0) (mc := 0) (ms := 0) [.inl (.int 0), .inl (.int (μ10 13 0 20))] hG v_13 rfl lk_ProphecyShopModel_307 (w_R_das4 (d + 13) hG hr11) rfl rfl d_R_runScript_66 (aft_rw (fun G hG => ?_))
      refine Ev.at (pc' := 69) rfl (Ev.cong (st' := [.inl (.int r11.1)]) ?_ rfl rfl)
      refine cw_istoreN_n 1 r11.1 rfl [some (.inr (0, off 13 0)), some (.inl (.int r11.1))] d_R_runScript_69 rfl rfl rfl ?_
      refine ev_aload_n (k0 := 0) rfl d_R_runScript_70 ?_
      refine cw_iconst 0 d_R_runScript_71 rfl ?_
      obtain ⟨μ12, e_μ12, h⟩ := nm_some h
      refine cv_put (.inl (.int 0)) 0 hG okR v_13 fl_ProphecyShopModel_320_13 rfl rfl (okv_bool rfl) d_R_runScript_72 ?_
      intro G hG; rw [← e_μ12] at hG
      refine ev_aload_n (k0 := 0) rfl d_R_runScript_75 ?_
      refine cw_iconst 0 d_R_runScript_76 rfl ?_
      obtain ⟨μ13, e_μ13, h⟩ := nm_some h
      refine cv_put (.inl (.int 0)) 0 hG okR v_13 fl_ProphecyShopModel_73_13 rfl rfl okv_int d_R_runScript_77 ?_
      intro G hG; rw [← e_μ13] at hG
      refine ev_aload_n (k0 := 0) rfl d_R_runScript_80 ?_
      refine cv_get9 (.inl (.int (μ13 13 0 21))) hG v_13 fg_ProphecyShopModel_311_13 rfl rfl d_R_runScript_81 ?_
      have hP := kE _ (Option.some.inj h).symm
      exact ev_ireturn (st := []) rfl rfl d_R_runScript_84 (by rw [hP]; exact ⟨rfl, hG, rfl⟩)
    · rw [if_pos c] at h
      refine cw_iconst (-1) d_R_runScript_44 rfl ?_
      have hP := kE _ (Option.some.inj h).symm
      exact ev_ireturn (st := []) rfl rfl d_R_runScript_45 (by rw [hP]; exact ⟨rfl, hG, rfl⟩)
  clear h
  have h := hj
  refine ev_if_ne (tgt := 31) (by decide) d_R_runScript_24 (fun c => ?_) (fun c => ?_)
  · rw [if_neg c] at h
    refine cw_iconst 0 d_R_runScript_31 rfl ?_
    obtain rfl := Option.some.inj h
    exact K_q5
  · rw [if_pos c] at h
    refine cw_iconst 1 d_R_runScript_27 rfl ?_
    refine ev_goto (tgt := 32) (by decide) d_R_runScript_28 ?_
    obtain rfl := Option.some.inj h
    exact K_q5

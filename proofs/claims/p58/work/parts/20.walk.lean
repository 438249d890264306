/-- ProphecyShop$History.forgetOldest -/
def s_History_forgetOldest_9 (j1 : Nat) (x2 : Int32) (μ : Mem) : Option ((Int32 × Mem) ⊕ (Mem)) :=
  if (8 : Int32) ≤ x2 then (some (.inr μ)) else (chk (inb x2 8) (chk (decide ((μ 34 0 x2.toNatClampNeg).toNatClampNeg < 12)) (chk (inb (x2 - 1) 8) (nm (st3 μ 34 0 (x2 - 1).toNatClampNeg (Int32.ofNat ((μ 34 0 x2.toNatClampNeg).toNatClampNeg))) (fun μ4 => some (.inl ((x2 + 1, μ4))))))))
def f_History_forgetOldest  (μ : Mem) : Option (Mem) :=
  chk (inb 0 8) (chk (decide ((μ 34 0 (0 : Int32).toNatClampNeg).toNatClampNeg < 12)) ((it (fun (s : Int32 × Mem) => s_History_forgetOldest_9 ((μ 34 0 (0 : Int32).toNatClampNeg).toNatClampNeg) s.1 s.2) LIM ((1, μ))).bind (fun q3 => chk (inb 7 8) (nm (st3 q3 34 0 (7 : Int32).toNatClampNeg (Int32.ofNat ((μ 34 0 (0 : Int32).toNatClampNeg).toNatClampNeg))) (fun μ5 => nm (st3 μ5 2 0 1 7) (fun μ6 => some μ6))))))
set_option maxRecDepth 100000 in
set_option maxHeartbeats 4000000 in
theorem ws_History_forgetOldest_9 {g : GL} {F G : RG} {nx mc ms : Nat} {Post : RO → RM → Prop} (d : Nat) {j1 : Nat} {x2 : Int32} {μ : Mem} (hv1 : vc 9 j1)  {o : (Int32 × Mem) ⊕ (Mem)} (hG : LM vc 0 535 μ F G) (h : s_History_forgetOldest_9 j1 x2 μ = some o)
    (kC : ∀ s', o = .inl s' → ∀ G, LM vc 0 535 s'.2 F G → Ev g (d + 0) m_History_forgetOldest 9 [some (.inr (0, off 2 0)), some (.inr (0, off 9 j1)), some (.inl (.int s'.1))] [] (G, nx) mc ms Post)
    (kX : ∀ r, o = .inr r → ∀ G, LM vc 0 535 r F G → Ev g (d + 0) m_History_forgetOldest 35 [some (.inr (0, off 2 0)), some (.inr (0, off 9 j1)), none] [] (G, nx) mc ms Post)
    : Ev g (d + 0) m_History_forgetOldest 9 [some (.inr (0, off 2 0)), some (.inr (0, off 9 j1)), some (.inl (.int x2))] [] (G, nx) mc ms Post := by
  unfold s_History_forgetOldest_9 at h
  refine ev_iload_n (k0 := 2) rfl d_History_forgetOldest_9 ?_
  refine cw_bipush 8 d_History_forgetOldest_10 rfl ?_
  refine ev_icmp_ge (tgt := 35) (by decide) d_History_forgetOldest_12 (fun c => ?_) (fun c => ?_)
  · rw [if_pos c] at h
    exact Ev.sub (.s (.s (.n LSb.z))) (kX _ (Option.some.inj h).symm G hG)
  · rw [if_neg c] at h
    refine ev_aload_n (k0 := 0) rfl d_History_forgetOldest_15 ?_
    refine cv_get9 (.inr (0, off 34 0)) hG v_2 fg_History_11_2 rfl rfl d_History_forgetOldest_16 ?_
    refine ev_iload_n (k0 := 2) rfl d_History_forgetOldest_19 ?_
    refine cw_iconst 1 d_History_forgetOldest_20 rfl ?_
    refine ev_isub d_History_forgetOldest_21 ?_
    refine ev_aload_n (k0 := 0) rfl d_History_forgetOldest_22 ?_
    refine cv_get9 (.inr (0, off 34 0)) hG v_2 fg_History_11_2 rfl rfl d_History_forgetOldest_23 ?_
    refine ev_iload_n (k0 := 2) rfl d_History_forgetOldest_26 ?_
    obtain ⟨b1, h⟩ := chk_some h
    obtain ⟨b2, h⟩ := chk_some h
    refine cv_aald (.inr (0, off 9 ((μ 34 0 x2.toNatClampNeg).toNatClampNeg))) hG v_34 rfl rfl rfl b1 rfl d_History_forgetOldest_27 ?_
    obtain ⟨b3, h⟩ := chk_some h
    obtain ⟨μ4, e_μ4, h⟩ := nm_some h
    refine cv_aast (C := "") (Int32.ofNat ((μ 34 0 x2.toNatClampNeg).toNatClampNeg)) hG okC v_34 rfl rfl (by decide) (show vc 9 _ from dlt9 b2) rfl rfl rfl b3 (fldx (Nat.lt_trans (show (μ 34 0 x2.toNatClampNeg).toNatClampNeg < 12 from (show vc 9 _ from dlt9 b2)) (by decide))) d_History_forgetOldest_28 ?_
    intro G hG; rw [← e_μ4] at hG
    refine cw_iincN 2 1 [some (.inr (0, off 2 0)), some (.inr (0, off 9 j1)), some (.inl (.int (x2 + 1)))] d_History_forgetOldest_29 rfl rfl rfl rfl rfl ?_
    refine Ev.at (pc' := 32) rfl ?_
    refine ev_goto (tgt := 9) (by decide) d_History_forgetOldest_32 ?_
    exact kC _ (Option.some.inj h).symm G hG
set_option maxRecDepth 100000 in
set_option maxHeartbeats 4000000 in
theorem w_History_forgetOldest {g : GL} {F G : RG} {nx : Nat} (d : Nat)  {μ : Mem}   {o : Mem} (hG : LM vc 0 535 μ F G) (h : f_History_forgetOldest  μ = some o) : Mt g (d + 0) m_History_forgetOldest [.inr (0, off 2 0)] (G, nx) 0 0 (pRW vc 0 535 rV o F nx) := by
  unfold f_History_forgetOldest at h
  have kE : ∀ v, o = v → pRW vc 0 535 rV o F nx = pRW vc 0 535 rV v F nx := fun v e => by subst e; rfl
  refine Mt.of9 [some (.inr (0, off 2 0)), none, none] (by decide +kernel) rfl rfl rfl rfl ?_
  refine ev_aload_n (k0 := 0) rfl d_History_forgetOldest_0 ?_
  refine cv_get9 (.inr (0, off 34 0)) hG v_2 fg_History_11_2 rfl rfl d_History_forgetOldest_1 ?_
  refine cw_iconst 0 d_History_forgetOldest_4 rfl ?_
  obtain ⟨b1, h⟩ := chk_some h
  obtain ⟨b2, h⟩ := chk_some h
  refine cv_aald (.inr (0, off 9 ((μ 34 0 (0 : Int32).toNatClampNeg).toNatClampNeg))) hG v_34 rfl rfl rfl b1 rfl d_History_forgetOldest_5 ?_
  refine cw_astoreN_n 1 [some (.inr (0, off 2 0)), some (.inr (0, off 9 ((μ 34 0 (0 : Int32).toNatClampNeg).toNatClampNeg))), none] d_History_forgetOldest_6 rfl rfl rfl ?_
  refine cw_iconst 1 d_History_forgetOldest_7 rfl ?_
  refine cw_istoreN_n 2 1 rfl [some (.inr (0, off 2 0)), some (.inr (0, off 9 ((μ 34 0 (0 : Int32).toNatClampNeg).toNatClampNeg))), some (.inl (.int 1))] d_History_forgetOldest_8 rfl rfl rfl ?_
  obtain ⟨q3, hl, h⟩ := bind_some9 h
  refine it_ev (W := fun (s : Int32 × Mem) => ∀ G, LM vc 0 535 s.2 F G → Ev g (d + 0) m_History_forgetOldest 9 [some (.inr (0, off 2 0)), some (.inr (0, off 9 ((μ 34 0 (0 : Int32).toNatClampNeg).toNatClampNeg))), some (.inl (.int s.1))] [] (G, nx) 0 0 (pRW vc 0 535 rV o F nx)) (X := fun z => z = q3) rfl (fun s9 o9 hs kC9 kX9 => ?_) LIM _ hl G hG
  intro G hG
  refine ws_History_forgetOldest_9 d (show vc 9 _ from dlt9 b2) hG hs kC9 (fun r_ e G hG => ?_)
  · obtain rfl := (kX9 _ e).symm
    refine ev_aload_n (k0 := 0) rfl d_History_forgetOldest_35 ?_
    refine cv_get9 (.inr (0, off 34 0)) hG v_2 fg_History_11_2 rfl rfl d_History_forgetOldest_36 ?_
    refine cw_bipush 7 d_History_forgetOldest_39 rfl ?_
    refine ev_aload_n (k0 := 1) rfl d_History_forgetOldest_41 ?_
    obtain ⟨b4, h⟩ := chk_some h
    obtain ⟨μ5, e_μ5, h⟩ := nm_some h
    refine cv_aast (C := "") (Int32.ofNat ((μ 34 0 (0 : Int32).toNatClampNeg).toNatClampNeg)) hG okC v_34 rfl rfl (by decide) (show vc 9 _ from dlt9 b2) rfl rfl rfl b4 (fldx (Nat.lt_trans (show (μ 34 0 (0 : Int32).toNatClampNeg).toNatClampNeg < 12 from (show vc 9 _ from dlt9 b2)) (by decide))) d_History_forgetOldest_42 ?_
    intro G hG; rw [← e_μ5] at hG
    refine ev_aload_n (k0 := 0) rfl d_History_forgetOldest_43 ?_
    refine cw_bipush 7 d_History_forgetOldest_44 rfl ?_
    obtain ⟨μ6, e_μ6, h⟩ := nm_some h
    refine cv_put (.inl (.int 7)) 7 hG okC v_2 fl_History_17_2 rfl rfl okv_int d_History_forgetOldest_46 ?_
    intro G hG; rw [← e_μ6] at hG
    have hP := kE _ (Option.some.inj h).symm
    exact ev_return (st := []) rfl d_History_forgetOldest_49 (by rw [hP]; exact ⟨rfl, hG, rfl⟩)

/-- ProphecyShop$Prophecy.copyFrom -/
def f_Prophecy_copyFrom (j0 : Nat) (j1 : Nat) (μ : Mem) : Option (Mem) :=
  nm (st3 μ 5 j0 0 (μ 5 j1 0)) (fun μ1 => nm (st3 μ1 5 j0 1 (μ1 5 j1 1)) (fun μ2 => nm (st3 μ2 5 j0 2 (μ2 5 j1 2)) (fun μ3 => nm (st3 μ3 5 j0 3 (μ3 5 j1 3)) (fun μ4 => nm (st3 μ4 5 j0 4 (μ4 5 j1 4)) (fun μ5 => nm (st3 μ5 5 j0 5 (μ5 5 j1 5)) (fun μ6 => nm (st3 μ6 5 j0 6 (μ6 5 j1 6)) (fun μ7 => nm (st3 μ7 5 j0 7 (μ7 5 j1 7)) (fun μ8 => nm (st3 μ8 5 j0 8 (μ8 5 j1 8)) (fun μ9 => nm (st3 μ9 5 j0 9 (μ9 5 j1 9)) (fun μ10 => some μ10))))))))))
set_option maxRecDepth 100000 in
set_option maxHeartbeats 4000000 in
theorem w_Prophecy_copyFrom {g : GL} {F G : RG} {nx : Nat} (d : Nat) {j0 : Nat} {j1 : Nat} {μ : Mem} (hv0 : vc 5 j0) (hv1 : vc 5 j1)  {o : Mem} (hG : LM vc 0 535 μ F G) (h : f_Prophecy_copyFrom j0 j1 μ = some o) : Mt g (d + 0) m_Prophecy_copyFrom [.inr (0, off 5 j0), .inr (0, off 5 j1)] (G, nx) 0 0 (pRW vc 0 535 rV o F nx) := by
  unfold f_Prophecy_copyFrom at h
  have kE : ∀ v, o = v → pRW vc 0 535 rV o F nx = pRW vc 0 535 rV v F nx := fun v e => by subst e; rfl
  refine Mt.of9 [some (.inr (0, off 5 j0)), some (.inr (0, off 5 j1))] (by decide +kernel) rfl rfl rfl rfl ?_
  refine ev_aload_n (k0 := 0) rfl d_Prophecy_copyFrom_0 ?_
  refine ev_aload_n (k0 := 1) rfl d_Prophecy_copyFrom_1 ?_
  refine cv_get9 (.inl (.int (μ 5 j1 0))) hG hv1 fg_Prophecy_9_5 rfl rfl d_Prophecy_copyFrom_2 ?_
  obtain ⟨μ1, e_μ1, h⟩ := nm_some h
  refine cv_put (.inl (.int (μ 5 j1 0))) (μ 5 j1 0) hG okC hv0 fl_Prophecy_9_5 rfl rfl okv_int d_Prophecy_copyFrom_5 ?_
  intro G hG; rw [← e_μ1] at hG
  refine ev_aload_n (k0 := 0) rfl d_Prophecy_copyFrom_8 ?_
  refine ev_aload_n (k0 := 1) rfl d_Prophecy_copyFrom_9 ?_
  refine cv_get9 (.inl (.int (μ1 5 j1 1))) hG hv1 fg_Prophecy_15_5 rfl rfl d_Prophecy_copyFrom_10 ?_
  obtain ⟨μ2, e_μ2, h⟩ := nm_some h
  refine cv_put (.inl (.int (μ1 5 j1 1))) (μ1 5 j1 1) hG okC hv0 fl_Prophecy_15_5 rfl rfl okv_int d_Prophecy_copyFrom_13 ?_
  intro G hG; rw [← e_μ2] at hG
  refine ev_aload_n (k0 := 0) rfl d_Prophecy_copyFrom_16 ?_
  refine ev_aload_n (k0 := 1) rfl d_Prophecy_copyFrom_17 ?_
  refine cv_get9 (.inl (.int (μ2 5 j1 2))) hG hv1 fg_Prophecy_18_5 rfl rfl d_Prophecy_copyFrom_18 ?_
  refine Ev.at (pc' := 21) rfl ?_
  obtain ⟨μ3, e_μ3, h⟩ := nm_some h
  refine cv_put (.inl (.int (μ2 5 j1 2))) (μ2 5 j1 2) hG okC hv0 fl_Prophecy_18_5 rfl rfl okv_int d_Prophecy_copyFrom_21 ?_
  intro G hG; rw [← e_μ3] at hG
  refine ev_aload_n (k0 := 0) rfl d_Prophecy_copyFrom_24 ?_
  refine ev_aload_n (k0 := 1) rfl d_Prophecy_copyFrom_25 ?_
  refine cv_get9 (.inl (.int (μ3 5 j1 3))) hG hv1 fg_Prophecy_21_5 rfl rfl d_Prophecy_copyFrom_26 ?_
  obtain ⟨μ4, e_μ4, h⟩ := nm_some h
  refine cv_put (.inl (.int (μ3 5 j1 3))) (μ3 5 j1 3) hG okC hv0 fl_Prophecy_21_5 rfl rfl okv_int d_Prophecy_copyFrom_29 ?_
  intro G hG; rw [← e_μ4] at hG
  refine ev_aload_n (k0 := 0) rfl d_Prophecy_copyFrom_32 ?_
  refine ev_aload_n (k0 := 1) rfl d_Prophecy_copyFrom_33 ?_
  refine cv_get9 (.inl (.int (μ4 5 j1 4))) hG hv1 fg_Prophecy_24_5 rfl rfl d_Prophecy_copyFrom_34 ?_
  obtain ⟨μ5, e_μ5, h⟩ := nm_some h
  refine cv_put (.inl (.int (μ4 5 j1 4))) (μ4 5 j1 4) hG okC hv0 fl_Prophecy_24_5 rfl rfl okv_int d_Prophecy_copyFrom_37 ?_
  intro G hG; rw [← e_μ5] at hG
  refine ev_aload_n (k0 := 0) rfl d_Prophecy_copyFrom_40 ?_
  refine ev_aload_n (k0 := 1) rfl d_Prophecy_copyFrom_41 ?_
  refine cv_get9 (.inl (.int (μ5 5 j1 5))) hG hv1 fg_Prophecy_27_5 rfl rfl d_Prophecy_copyFrom_42 ?_
  refine Ev.at (pc' := 45) rfl ?_
  obtain ⟨μ6, e_μ6, h⟩ := nm_some h
  refine cv_put (.inl (.int (μ5 5 j1 5))) (μ5 5 j1 5) hG okC hv0 fl_Prophecy_27_5 rfl rfl okv_int d_Prophecy_copyFrom_45 ?_
  intro G hG; rw [← e_μ6] at hG
  refine ev_aload_n (k0 := 0) rfl d_Prophecy_copyFrom_48 ?_
  refine ev_aload_n (k0 := 1) rfl d_Prophecy_copyFrom_49 ?_
  refine cv_get9 (.inl (.int (μ6 5 j1 6))) hG hv1 fg_Prophecy_30_5 rfl rfl d_Prophecy_copyFrom_50 ?_
  obtain ⟨μ7, e_μ7, h⟩ := nm_some h
  refine cv_put (.inl (.int (μ6 5 j1 6))) (μ6 5 j1 6) hG okC hv0 fl_Prophecy_30_5 rfl rfl okv_int d_Prophecy_copyFrom_53 ?_
  intro G hG; rw [← e_μ7] at hG
  refine ev_aload_n (k0 := 0) rfl d_Prophecy_copyFrom_56 ?_
  refine ev_aload_n (k0 := 1) rfl d_Prophecy_copyFrom_57 ?_
  refine cv_get9 (.inl (.int (μ7 5 j1 7))) hG hv1 fg_Prophecy_33_5 rfl rfl d_Prophecy_copyFrom_58 ?_
  obtain ⟨μ8, e_μ8, h⟩ := nm_some h
  refine cv_put (.inl (.int (μ7 5 j1 7))) (μ7 5 j1 7) hG okC hv0 fl_Prophecy_33_5 rfl rfl okv_int d_Prophecy_copyFrom_61 ?_
  intro G hG; rw [← e_μ8] at hG
  refine ev_aload_n (k0 := 0) rfl d_Prophecy_copyFrom_64 ?_
  refine ev_aload_n (k0 := 1) rfl d_Prophecy_copyFrom_65 ?_
  refine cv_get9 (.inl (.int (μ8 5 j1 8))) hG hv1 fg_Prophecy_36_5 rfl rfl d_Prophecy_copyFrom_66 ?_
  refine Ev.at (pc' := 69) rfl ?_
  obtain ⟨μ9, e_μ9, h⟩ := nm_some h
  refine cv_put (.inl (.int (μ8 5 j1 8))) (μ8 5 j1 8) hG okC hv0 fl_Prophecy_36_5 rfl rfl okv_int d_Prophecy_copyFrom_69 ?_
  intro G hG; rw [← e_μ9] at hG
  refine ev_aload_n (k0 := 0) rfl d_Prophecy_copyFrom_72 ?_
  refine ev_aload_n (k0 := 1) rfl d_Prophecy_copyFrom_73 ?_
  refine cv_get9 (.inl (.int (μ9 5 j1 9))) hG hv1 fg_Prophecy_39_5 rfl rfl d_Prophecy_copyFrom_74 ?_
  obtain ⟨μ10, e_μ10, h⟩ := nm_some h
  refine cv_put (.inl (.int (μ9 5 j1 9))) (μ9 5 j1 9) hG okC hv0 fl_Prophecy_39_5 rfl rfl okv_int d_Prophecy_copyFrom_77 ?_
  intro G hG; rw [← e_μ10] at hG
  have hP := kE _ (Option.some.inj h).symm
  exact ev_return (st := []) rfl d_Prophecy_copyFrom_80 (by rw [hP]; exact ⟨rfl, hG, rfl⟩)

/-- ProphecyShop$Owl.copyFrom -/
def f_Owl_copyFrom (j0 : Nat) (j1 : Nat) (μ : Mem) : Option (Mem) :=
  nm (st3 μ 4 j0 0 (μ 4 j1 0)) (fun μ1 => nm (st3 μ1 4 j0 1 (μ1 4 j1 1)) (fun μ2 => nm (st3 μ2 4 j0 2 (μ2 4 j1 2)) (fun μ3 => nm (st3 μ3 4 j0 3 (μ3 4 j1 3)) (fun μ4 => chk (nb .boolean (μ4 4 j1 4)) (nm (st3 μ4 4 j0 4 (μ4 4 j1 4)) (fun μ6 => some μ6))))))
set_option maxRecDepth 100000 in
set_option maxHeartbeats 4000000 in
theorem w_Owl_copyFrom {g : GL} {F G : RG} {nx : Nat} (d : Nat) {j0 : Nat} {j1 : Nat} {μ : Mem} (hv0 : vc 4 j0) (hv1 : vc 4 j1)  {o : Mem} (hG : LM vc 0 535 μ F G) (h : f_Owl_copyFrom j0 j1 μ = some o) : Mt g (d + 0) m_Owl_copyFrom [.inr (0, off 4 j0), .inr (0, off 4 j1)] (G, nx) 0 0 (pRW vc 0 535 rV o F nx) := by
  unfold f_Owl_copyFrom at h
  have kE : ∀ v, o = v → pRW vc 0 535 rV o F nx = pRW vc 0 535 rV v F nx := fun v e => by subst e; rfl
  refine Mt.of9 [some (.inr (0, off 4 j0)), some (.inr (0, off 4 j1))] (by decide +kernel) rfl rfl rfl rfl ?_
  refine ev_aload_n (k0 := 0) rfl d_Owl_copyFrom_0 ?_
  refine ev_aload_n (k0 := 1) rfl d_Owl_copyFrom_1 ?_
  refine cv_get9 (.inl (.int (μ 4 j1 0))) hG hv1 fg_Owl_9_4 rfl rfl d_Owl_copyFrom_2 ?_
  obtain ⟨μ1, e_μ1, h⟩ := nm_some h
  refine cv_put (.inl (.int (μ 4 j1 0))) (μ 4 j1 0) hG okC hv0 fl_Owl_9_4 rfl rfl okv_int d_Owl_copyFrom_5 ?_
  intro G hG; rw [← e_μ1] at hG
  refine ev_aload_n (k0 := 0) rfl d_Owl_copyFrom_8 ?_
  refine ev_aload_n (k0 := 1) rfl d_Owl_copyFrom_9 ?_
  refine cv_get9 (.inl (.int (μ1 4 j1 1))) hG hv1 fg_Owl_15_4 rfl rfl d_Owl_copyFrom_10 ?_
  obtain ⟨μ2, e_μ2, h⟩ := nm_some h
  refine cv_put (.inl (.int (μ1 4 j1 1))) (μ1 4 j1 1) hG okC hv0 fl_Owl_15_4 rfl rfl okv_int d_Owl_copyFrom_13 ?_
  intro G hG; rw [← e_μ2] at hG
  refine ev_aload_n (k0 := 0) rfl d_Owl_copyFrom_16 ?_
  refine ev_aload_n (k0 := 1) rfl d_Owl_copyFrom_17 ?_
  refine cv_get9 (.inl (.int (μ2 4 j1 2))) hG hv1 fg_Owl_18_4 rfl rfl d_Owl_copyFrom_18 ?_
  refine Ev.at (pc' := 21) rfl ?_
  obtain ⟨μ3, e_μ3, h⟩ := nm_some h
  refine cv_put (.inl (.int (μ2 4 j1 2))) (μ2 4 j1 2) hG okC hv0 fl_Owl_18_4 rfl rfl okv_int d_Owl_copyFrom_21 ?_
  intro G hG; rw [← e_μ3] at hG
  refine ev_aload_n (k0 := 0) rfl d_Owl_copyFrom_24 ?_
  refine ev_aload_n (k0 := 1) rfl d_Owl_copyFrom_25 ?_
  refine cv_get9 (.inl (.int (μ3 4 j1 3))) hG hv1 fg_Owl_21_4 rfl rfl d_Owl_copyFrom_26 ?_
  obtain ⟨μ4, e_μ4, h⟩ := nm_some h
  refine cv_put (.inl (.int (μ3 4 j1 3))) (μ3 4 j1 3) hG okC hv0 fl_Owl_21_4 rfl rfl okv_int d_Owl_copyFrom_29 ?_
  intro G hG; rw [← e_μ4] at hG
  refine ev_aload_n (k0 := 0) rfl d_Owl_copyFrom_32 ?_
  refine ev_aload_n (k0 := 1) rfl d_Owl_copyFrom_33 ?_
  refine cv_get9 (.inl (.int (μ4 4 j1 4))) hG hv1 fg_Owl_24_4 rfl rfl d_Owl_copyFrom_34 ?_
  obtain ⟨b5, h⟩ := chk_some h
  obtain ⟨μ6, e_μ6, h⟩ := nm_some h
  refine cv_put (.inl (.int (μ4 4 j1 4))) (μ4 4 j1 4) hG okC hv0 fl_Owl_24_4 rfl rfl (okv_bool b5) d_Owl_copyFrom_37 ?_
  intro G hG; rw [← e_μ6] at hG
  have hP := kE _ (Option.some.inj h).symm
  exact ev_return (st := []) rfl d_Owl_copyFrom_40 (by rw [hP]; exact ⟨rfl, hG, rfl⟩)

/-- ProphecyShop$Shop.copyFrom -/
def s_Shop_copyFrom_141 (j0 : Nat) (j1 : Nat) (x2 : Int32) (μ : Mem) : Option ((Int32 × Mem) ⊕ (Mem)) :=
  if (24 : Int32) ≤ x2 then (some (.inr μ)) else (chk (inb x2 24) (chk (inb x2 24) (((f_Prophecy_copyFrom (24 * j0 + x2.toNatClampNeg) (24 * j1 + x2.toNatClampNeg) μ)).bind (fun r3 => some (.inl ((x2 + 1, r3)))))))
def s_Shop_copyFrom_170 (j0 : Nat) (j1 : Nat) (x2 : Int32) (μ : Mem) : Option ((Int32 × Mem) ⊕ (Mem)) :=
  if (5 : Int32) ≤ x2 then (some (.inr μ)) else (chk (inb x2 5) (chk (inb x2 5) (((f_Owl_copyFrom (5 * j0 + x2.toNatClampNeg) (5 * j1 + x2.toNatClampNeg) μ)).bind (fun r3 => some (.inl ((x2 + 1, r3)))))))
def f_Shop_copyFrom (j0 : Nat) (j1 : Nat) (μ : Mem) : Option (Mem) :=
  chk (decide ((μ 9 j1 0).toNatClampNeg < 2)) (nm (st3 μ 9 j0 0 (Int32.ofNat ((μ 9 j1 0).toNatClampNeg))) (fun μ2 => nm (st3 μ2 9 j0 1 (μ2 9 j1 1)) (fun μ3 => nm (st3 μ3 9 j0 2 (μ3 9 j1 2)) (fun μ4 => nm (st3 μ4 9 j0 5 (μ4 9 j1 5)) (fun μ5 => nm (st3 μ5 9 j0 8 (μ5 9 j1 8)) (fun μ6 => nm (st3 μ6 9 j0 12 (μ6 9 j1 12)) (fun μ7 => nm (st3 μ7 9 j0 13 (μ7 9 j1 13)) (fun μ8 => nm (st3 μ8 9 j0 14 (μ8 9 j1 14)) (fun μ9 => chk (cpb 0 0 8 8 8) (nm (cp3 μ9 27 j1 27 j0 (0 : Int32).toNatClampNeg (0 : Int32).toNatClampNeg (8 : Int32).toNatClampNeg) (fun μ11 => chk (cpb 0 0 24 24 24) (nm (cp3 μ11 30 j1 30 j0 (0 : Int32).toNatClampNeg (0 : Int32).toNatClampNeg (24 : Int32).toNatClampNeg) (fun μ13 => chk (cpb 0 0 60 60 60) (nm (cp3 μ13 31 j1 31 j0 (0 : Int32).toNatClampNeg (0 : Int32).toNatClampNeg (60 : Int32).toNatClampNeg) (fun μ15 => chk (cpb 0 0 60 60 60) (nm (cp3 μ15 32 j1 32 j0 (0 : Int32).toNatClampNeg (0 : Int32).toNatClampNeg (60 : Int32).toNatClampNeg) (fun μ17 => chk (cpb 0 0 60 60 60) (nm (cp3 μ17 33 j1 33 j0 (0 : Int32).toNatClampNeg (0 : Int32).toNatClampNeg (60 : Int32).toNatClampNeg) (fun μ19 => (it (fun (s : Int32 × Mem) => s_Shop_copyFrom_141 j0 j1 s.1 s.2) LIM ((0, μ19))).bind (fun q20 => (it (fun (s : Int32 × Mem) => s_Shop_copyFrom_170 j0 j1 s.1 s.2) LIM ((0, q20))).bind (fun q21 => some q21)))))))))))))))))))))
set_option maxRecDepth 100000 in
set_option maxHeartbeats 4000000 in
theorem ws_Shop_copyFrom_141 {g : GL} {F G : RG} {nx mc ms : Nat} {Post : RO → RM → Prop} (d : Nat) {j0 : Nat} {j1 : Nat} {x2 : Int32} {μ : Mem} (hv0 : vc 9 j0) (hv1 : vc 9 j1)  {o : (Int32 × Mem) ⊕ (Mem)} (hG : LM vc 0 535 μ F G) (h : s_Shop_copyFrom_141 j0 j1 x2 μ = some o)
    (kC : ∀ s', o = .inl s' → ∀ G, LM vc 0 535 s'.2 F G → Ev g (d + 1) m_Shop_copyFrom 141 [some (.inr (0, off 9 j0)), some (.inr (0, off 9 j1)), some (.inl (.int s'.1))] [] (G, nx) mc ms Post)
    (kX : ∀ r, o = .inr r → ∀ G, LM vc 0 535 r F G → Ev g (d + 1) m_Shop_copyFrom 168 [some (.inr (0, off 9 j0)), some (.inr (0, off 9 j1)), none] [] (G, nx) mc ms Post)
    : Ev g (d + 1) m_Shop_copyFrom 141 [some (.inr (0, off 9 j0)), some (.inr (0, off 9 j1)), some (.inl (.int x2))] [] (G, nx) mc ms Post := by
  unfold s_Shop_copyFrom_141 at h
  refine ev_iload_n (k0 := 2) rfl d_Shop_copyFrom_141 ?_
  refine cw_bipush 24 d_Shop_copyFrom_142 rfl ?_
  refine ev_icmp_ge (tgt := 168) (by decide) d_Shop_copyFrom_144 (fun c => ?_) (fun c => ?_)
  · rw [if_pos c] at h
    exact Ev.sub (.s (.s (.n LSb.z))) (kX _ (Option.some.inj h).symm G hG)
  · rw [if_neg c] at h
    refine ev_aload_n (k0 := 0) rfl d_Shop_copyFrom_147 ?_
    refine cv_get9 (.inr (0, off 28 j0)) hG hv0 fg_Shop_24_9 rfl rfl d_Shop_copyFrom_148 ?_
    refine ev_iload_n (k0 := 2) rfl d_Shop_copyFrom_151 ?_
    obtain ⟨b1, h⟩ := chk_some h
    refine cv_aald (.inr (0, off 5 (24 * j0 + x2.toNatClampNeg))) hG (tv_9_4 hv0) rfl rfl rfl b1 rfl d_Shop_copyFrom_152 ?_
    refine ev_aload_n (k0 := 1) rfl d_Shop_copyFrom_153 ?_
    refine cv_get9 (.inr (0, off 28 j1)) hG hv1 fg_Shop_24_9 rfl rfl d_Shop_copyFrom_154 ?_
    refine ev_iload_n (k0 := 2) rfl d_Shop_copyFrom_157 ?_
    obtain ⟨b2, h⟩ := chk_some h
    refine cv_aald (.inr (0, off 5 (24 * j1 + x2.toNatClampNeg))) hG (tv_9_4 hv1) rfl rfl rfl b2 rfl d_Shop_copyFrom_158 ?_
    obtain ⟨r3, hr3, h⟩ := bind_some9 h
    refine Ev.z9 ?_
    refine cv_V (d := d + 0) (mc1 := 0) (ms1 := 0) (mc := mc) (ms := ms) [.inr (0, off 5 (24 * j1 + x2.toNatClampNeg))] hG (ta_28 (tv_9_4 hv0) b1) rfl lk_Shop_83 (w_Prophecy_copyFrom (d + 0) (ta_28 (tv_9_4 hv0) b1) (ta_28 (tv_9_4 hv1) b2) hG hr3) rfl rfl d_Shop_copyFrom_159 (aft_rw (fun G hG => ?_))
    refine Ev.at (pc' := 162) rfl (Ev.cong (st' := []) ?_ rfl rfl)
    refine cw_iincN 2 1 [some (.inr (0, off 9 j0)), some (.inr (0, off 9 j1)), some (.inl (.int (x2 + 1)))] d_Shop_copyFrom_162 rfl rfl rfl rfl rfl ?_
    refine ev_goto (tgt := 141) (by decide) d_Shop_copyFrom_165 ?_
    exact kC _ (Option.some.inj h).symm G hG
set_option maxRecDepth 100000 in
set_option maxHeartbeats 4000000 in
theorem ws_Shop_copyFrom_170 {g : GL} {F G : RG} {nx mc ms : Nat} {Post : RO → RM → Prop} (d : Nat) {j0 : Nat} {j1 : Nat} {x2 : Int32} {μ : Mem} (hv0 : vc 9 j0) (hv1 : vc 9 j1)  {o : (Int32 × Mem) ⊕ (Mem)} (hG : LM vc 0 535 μ F G) (h : s_Shop_copyFrom_170 j0 j1 x2 μ = some o)
    (kC : ∀ s', o = .inl s' → ∀ G, LM vc 0 535 s'.2 F G → Ev g (d + 1) m_Shop_copyFrom 170 [some (.inr (0, off 9 j0)), some (.inr (0, off 9 j1)), some (.inl (.int s'.1))] [] (G, nx) mc ms Post)
    (kX : ∀ r, o = .inr r → ∀ G, LM vc 0 535 r F G → Ev g (d + 1) m_Shop_copyFrom 196 [none, none, none] [] (G, nx) mc ms Post)
    : Ev g (d + 1) m_Shop_copyFrom 170 [some (.inr (0, off 9 j0)), some (.inr (0, off 9 j1)), some (.inl (.int x2))] [] (G, nx) mc ms Post := by
  unfold s_Shop_copyFrom_170 at h
  refine ev_iload_n (k0 := 2) rfl d_Shop_copyFrom_170 ?_
  refine cw_iconst 5 d_Shop_copyFrom_171 rfl ?_
  refine ev_icmp_ge (tgt := 196) (by decide) d_Shop_copyFrom_172 (fun c => ?_) (fun c => ?_)
  · rw [if_pos c] at h
    exact Ev.sub (.n (.n (.n LSb.z))) (kX _ (Option.some.inj h).symm G hG)
  · rw [if_neg c] at h
    refine ev_aload_n (k0 := 0) rfl d_Shop_copyFrom_175 ?_
    refine cv_get9 (.inr (0, off 29 j0)) hG hv0 fg_Shop_33_9 rfl rfl d_Shop_copyFrom_176 ?_
    refine ev_iload_n (k0 := 2) rfl d_Shop_copyFrom_179 ?_
    obtain ⟨b1, h⟩ := chk_some h
    refine cv_aald (.inr (0, off 4 (5 * j0 + x2.toNatClampNeg))) hG (tv_9_6 hv0) rfl rfl rfl b1 rfl d_Shop_copyFrom_180 ?_
    refine ev_aload_n (k0 := 1) rfl d_Shop_copyFrom_181 ?_
    refine cv_get9 (.inr (0, off 29 j1)) hG hv1 fg_Shop_33_9 rfl rfl d_Shop_copyFrom_182 ?_
    refine ev_iload_n (k0 := 2) rfl d_Shop_copyFrom_185 ?_
    obtain ⟨b2, h⟩ := chk_some h
    refine cv_aald (.inr (0, off 4 (5 * j1 + x2.toNatClampNeg))) hG (tv_9_6 hv1) rfl rfl rfl b2 rfl d_Shop_copyFrom_186 ?_
    obtain ⟨r3, hr3, h⟩ := bind_some9 h
    refine Ev.z9 ?_
    refine cv_V (d := d + 0) (mc1 := 0) (ms1 := 0) (mc := mc) (ms := ms) [.inr (0, off 4 (5 * j1 + x2.toNatClampNeg))] hG (ta_29 (tv_9_6 hv0) b1) rfl lk_Shop_87 (w_Owl_copyFrom (d + 0) (ta_29 (tv_9_6 hv0) b1) (ta_29 (tv_9_6 hv1) b2) hG hr3) rfl rfl d_Shop_copyFrom_187 (aft_rw (fun G hG => ?_))
    refine Ev.at (pc' := 190) rfl (Ev.cong (st' := []) ?_ rfl rfl)
    refine cw_iincN 2 1 [some (.inr (0, off 9 j0)), some (.inr (0, off 9 j1)), some (.inl (.int (x2 + 1)))] d_Shop_copyFrom_190 rfl rfl rfl rfl rfl ?_
    refine ev_goto (tgt := 170) (by decide) d_Shop_copyFrom_193 ?_
    exact kC _ (Option.some.inj h).symm G hG
set_option maxRecDepth 100000 in
set_option maxHeartbeats 4000000 in
theorem w_Shop_copyFrom {g : GL} {F G : RG} {nx : Nat} (d : Nat) {j0 : Nat} {j1 : Nat} {μ : Mem} (hv0 : vc 9 j0) (hv1 : vc 9 j1)  {o : Mem} (hG : LM vc 0 535 μ F G) (h : f_Shop_copyFrom j0 j1 μ = some o) : Mt g (d + 1) m_Shop_copyFrom [.inr (0, off 9 j0), .inr (0, off 9 j1)] (G, nx) 0 0 (pRW vc 0 535 rV o F nx) := by
  unfold f_Shop_copyFrom at h
  have kE : ∀ v, o = v → pRW vc 0 535 rV o F nx = pRW vc 0 535 rV v F nx := fun v e => by subst e; rfl
  refine Mt.of9 [some (.inr (0, off 9 j0)), some (.inr (0, off 9 j1)), none] (by decide +kernel) rfl rfl rfl rfl ?_
  refine ev_aload_n (k0 := 0) rfl d_Shop_copyFrom_0 ?_
  refine ev_aload_n (k0 := 1) rfl d_Shop_copyFrom_1 ?_
  obtain ⟨b1, h⟩ := chk_some h
  refine cv_get9 (.inr (0, off 7 ((μ 9 j1 0).toNatClampNeg))) hG hv1 fg_Shop_61_9 rfl rfl d_Shop_copyFrom_2 ?_
  obtain ⟨μ2, e_μ2, h⟩ := nm_some h
  refine cv_put (.inr (0, off 7 ((μ 9 j1 0).toNatClampNeg))) (Int32.ofNat ((μ 9 j1 0).toNatClampNeg)) hG okC hv0 fl_Shop_61_9 rfl (fldx (Nat.lt_trans (show (μ 9 j1 0).toNatClampNeg < 2 from (show vc 7 _ from dlt9 b1)) (by decide))) okv_obj d_Shop_copyFrom_5 ?_
  intro G hG; rw [← e_μ2] at hG
  refine ev_aload_n (k0 := 0) rfl d_Shop_copyFrom_8 ?_
  refine ev_aload_n (k0 := 1) rfl d_Shop_copyFrom_9 ?_
  refine cv_get9 (.inl (.int (μ2 9 j1 1))) hG hv1 fg_Shop_9_9 rfl rfl d_Shop_copyFrom_10 ?_
  obtain ⟨μ3, e_μ3, h⟩ := nm_some h
  refine cv_put (.inl (.int (μ2 9 j1 1))) (μ2 9 j1 1) hG okC hv0 fl_Shop_9_9 rfl rfl okv_int d_Shop_copyFrom_13 ?_
  intro G hG; rw [← e_μ3] at hG
  refine ev_aload_n (k0 := 0) rfl d_Shop_copyFrom_16 ?_
  refine ev_aload_n (k0 := 1) rfl d_Shop_copyFrom_17 ?_
  refine cv_get9 (.inl (.int (μ3 9 j1 2))) hG hv1 fg_Shop_15_9 rfl rfl d_Shop_copyFrom_18 ?_
  refine Ev.at (pc' := 21) rfl ?_
  obtain ⟨μ4, e_μ4, h⟩ := nm_some h
  refine cv_put (.inl (.int (μ3 9 j1 2))) (μ3 9 j1 2) hG okC hv0 fl_Shop_15_9 rfl rfl okv_int d_Shop_copyFrom_21 ?_
  intro G hG; rw [← e_μ4] at hG
  refine ev_aload_n (k0 := 0) rfl d_Shop_copyFrom_24 ?_
  refine ev_aload_n (k0 := 1) rfl d_Shop_copyFrom_25 ?_
  refine cv_get9 (.inl (.int (μ4 9 j1 5))) hG hv1 fg_Shop_28_9 rfl rfl d_Shop_copyFrom_26 ?_
  obtain ⟨μ5, e_μ5, h⟩ := nm_some h
  refine cv_put (.inl (.int (μ4 9 j1 5))) (μ4 9 j1 5) hG okC hv0 fl_Shop_28_9 rfl rfl okv_int d_Shop_copyFrom_29 ?_
  intro G hG; rw [← e_μ5] at hG
  refine ev_aload_n (k0 := 0) rfl d_Shop_copyFrom_32 ?_
  refine ev_aload_n (k0 := 1) rfl d_Shop_copyFrom_33 ?_
  refine cv_get9 (.inl (.int (μ5 9 j1 8))) hG hv1 fg_Shop_40_9 rfl rfl d_Shop_copyFrom_34 ?_
  obtain ⟨μ6, e_μ6, h⟩ := nm_some h
  refine cv_put (.inl (.int (μ5 9 j1 8))) (μ5 9 j1 8) hG okC hv0 fl_Shop_40_9 rfl rfl okv_int d_Shop_copyFrom_37 ?_
  intro G hG; rw [← e_μ6] at hG
  refine ev_aload_n (k0 := 0) rfl d_Shop_copyFrom_40 ?_
  refine ev_aload_n (k0 := 1) rfl d_Shop_copyFrom_41 ?_
  refine cv_get9 (.inl (.int (μ6 9 j1 12))) hG hv1 fg_Shop_52_9 rfl rfl d_Shop_copyFrom_42 ?_
  refine Ev.at (pc' := 45) rfl ?_
  obtain ⟨μ7, e_μ7, h⟩ := nm_some h
  refine cv_put (.inl (.int (μ6 9 j1 12))) (μ6 9 j1 12) hG okC hv0 fl_Shop_52_9 rfl rfl okv_int d_Shop_copyFrom_45 ?_
  intro G hG; rw [← e_μ7] at hG
  refine ev_aload_n (k0 := 0) rfl d_Shop_copyFrom_48 ?_
  refine ev_aload_n (k0 := 1) rfl d_Shop_copyFrom_49 ?_
  refine cv_get9 (.inl (.int (μ7 9 j1 13))) hG hv1 fg_Shop_55_9 rfl rfl d_Shop_copyFrom_50 ?_
  obtain ⟨μ8, e_μ8, h⟩ := nm_some h
  refine cv_put (.inl (.int (μ7 9 j1 13))) (μ7 9 j1 13) hG okC hv0 fl_Shop_55_9 rfl rfl okv_int d_Shop_copyFrom_53 ?_
  intro G hG; rw [← e_μ8] at hG
  refine ev_aload_n (k0 := 0) rfl d_Shop_copyFrom_56 ?_
  refine ev_aload_n (k0 := 1) rfl d_Shop_copyFrom_57 ?_
  refine cv_get9 (.inl (.int (μ8 9 j1 14))) hG hv1 fg_Shop_58_9 rfl rfl d_Shop_copyFrom_58 ?_
  obtain ⟨μ9, e_μ9, h⟩ := nm_some h
  refine cv_put (.inl (.int (μ8 9 j1 14))) (μ8 9 j1 14) hG okC hv0 fl_Shop_58_9 rfl rfl okv_int d_Shop_copyFrom_61 ?_
  intro G hG; rw [← e_μ9] at hG
  refine ev_aload_n (k0 := 1) rfl d_Shop_copyFrom_64 ?_
  refine cv_get9 (.inr (0, off 27 j1)) hG hv1 fg_Shop_18_9 rfl rfl d_Shop_copyFrom_65 ?_
  refine cw_iconst 0 d_Shop_copyFrom_68 rfl ?_
  refine Ev.at (pc' := 69) rfl ?_
  refine ev_aload_n (k0 := 0) rfl d_Shop_copyFrom_69 ?_
  refine cv_get9 (.inr (0, off 27 j0)) hG hv0 fg_Shop_18_9 rfl rfl d_Shop_copyFrom_70 ?_
  refine cw_iconst 0 d_Shop_copyFrom_73 rfl ?_
  refine cw_bipush 8 d_Shop_copyFrom_74 rfl ?_
  obtain ⟨b10, h⟩ := chk_some h
  obtain ⟨μ11, e_μ11, h⟩ := nm_some h
  refine cv_copy (Nat.le_of_ble_eq_true rfl) ⟨wg_749, wg_751, wg_750, wg_23⟩ hG okC (tv_9_3 hv1) (tv_9_3 hv0) rfl rfl rfl rfl b10 (fun _ _ => rfl) (fun _ _ => rfl) d_Shop_copyFrom_76 ?_
  intro G hG; rw [← e_μ11] at hG
  refine ev_aload_n (k0 := 1) rfl d_Shop_copyFrom_79 ?_
  refine cv_get9 (.inr (0, off 30 j1)) hG hv1 fg_Shop_37_9 rfl rfl d_Shop_copyFrom_80 ?_
  refine cw_iconst 0 d_Shop_copyFrom_83 rfl ?_
  refine ev_aload_n (k0 := 0) rfl d_Shop_copyFrom_84 ?_
  refine cv_get9 (.inr (0, off 30 j0)) hG hv0 fg_Shop_37_9 rfl rfl d_Shop_copyFrom_85 ?_
  refine cw_iconst 0 d_Shop_copyFrom_88 rfl ?_
  refine cw_bipush 24 d_Shop_copyFrom_89 rfl ?_
  refine Ev.at (pc' := 91) rfl ?_
  obtain ⟨b12, h⟩ := chk_some h
  obtain ⟨μ13, e_μ13, h⟩ := nm_some h
  refine cv_copy (Nat.le_of_ble_eq_true rfl) ⟨wg_749, wg_751, wg_750, wg_23⟩ hG okC (tv_9_7 hv1) (tv_9_7 hv0) rfl rfl rfl rfl b12 (fun _ _ => rfl) (fun _ _ => rfl) d_Shop_copyFrom_91 ?_
  intro G hG; rw [← e_μ13] at hG
  refine ev_aload_n (k0 := 1) rfl d_Shop_copyFrom_94 ?_
  refine cv_get9 (.inr (0, off 31 j1)) hG hv1 fg_Shop_43_9 rfl rfl d_Shop_copyFrom_95 ?_
  refine cw_iconst 0 d_Shop_copyFrom_98 rfl ?_
  refine ev_aload_n (k0 := 0) rfl d_Shop_copyFrom_99 ?_
  refine cv_get9 (.inr (0, off 31 j0)) hG hv0 fg_Shop_43_9 rfl rfl d_Shop_copyFrom_100 ?_
  refine cw_iconst 0 d_Shop_copyFrom_103 rfl ?_
  refine cw_bipush 60 d_Shop_copyFrom_104 rfl ?_
  obtain ⟨b14, h⟩ := chk_some h
  obtain ⟨μ15, e_μ15, h⟩ := nm_some h
  refine cv_copy (Nat.le_of_ble_eq_true rfl) ⟨wg_749, wg_751, wg_750, wg_23⟩ hG okC (tv_9_9 hv1) (tv_9_9 hv0) rfl rfl rfl rfl b14 (fun _ _ => rfl) (fun _ _ => rfl) d_Shop_copyFrom_106 ?_
  intro G hG; rw [← e_μ15] at hG
  refine ev_aload_n (k0 := 1) rfl d_Shop_copyFrom_109 ?_
  refine cv_get9 (.inr (0, off 32 j1)) hG hv1 fg_Shop_46_9 rfl rfl d_Shop_copyFrom_110 ?_
  refine cw_iconst 0 d_Shop_copyFrom_113 rfl ?_
  refine Ev.at (pc' := 114) rfl ?_
  refine ev_aload_n (k0 := 0) rfl d_Shop_copyFrom_114 ?_
  refine cv_get9 (.inr (0, off 32 j0)) hG hv0 fg_Shop_46_9 rfl rfl d_Shop_copyFrom_115 ?_
  refine cw_iconst 0 d_Shop_copyFrom_118 rfl ?_
  refine cw_bipush 60 d_Shop_copyFrom_119 rfl ?_
  obtain ⟨b16, h⟩ := chk_some h
  obtain ⟨μ17, e_μ17, h⟩ := nm_some h
  refine cv_copy (Nat.le_of_ble_eq_true rfl) ⟨wg_749, wg_751, wg_750, wg_23⟩ hG okC (tv_9_10 hv1) (tv_9_10 hv0) rfl rfl rfl rfl b16 (fun _ _ => rfl) (fun _ _ => rfl) d_Shop_copyFrom_121 ?_
  intro G hG; rw [← e_μ17] at hG
  refine ev_aload_n (k0 := 1) rfl d_Shop_copyFrom_124 ?_
  refine cv_get9 (.inr (0, off 33 j1)) hG hv1 fg_Shop_49_9 rfl rfl d_Shop_copyFrom_125 ?_
  refine cw_iconst 0 d_Shop_copyFrom_128 rfl ?_
  refine ev_aload_n (k0 := 0) rfl d_Shop_copyFrom_129 ?_
  refine cv_get9 (.inr (0, off 33 j0)) hG hv0 fg_Shop_49_9 rfl rfl d_Shop_copyFrom_130 ?_
  refine cw_iconst 0 d_Shop_copyFrom_133 rfl ?_
  refine cw_bipush 60 d_Shop_copyFrom_134 rfl ?_
  refine Ev.at (pc' := 136) rfl ?_
  obtain ⟨b18, h⟩ := chk_some h
  obtain ⟨μ19, e_μ19, h⟩ := nm_some h
  refine cv_copy (Nat.le_of_ble_eq_true rfl) ⟨wg_749, wg_751, wg_750, wg_23⟩ hG okC (tv_9_11 hv1) (tv_9_11 hv0) rfl rfl rfl rfl b18 (fun _ _ => rfl) (fun _ _ => rfl) d_Shop_copyFrom_136 ?_
  intro G hG; rw [← e_μ19] at hG
  refine cw_iconst 0 d_Shop_copyFrom_139 rfl ?_
  refine cw_istoreN_n 2 0 rfl [some (.inr (0, off 9 j0)), some (.inr (0, off 9 j1)), some (.inl (.int 0))] d_Shop_copyFrom_140 rfl rfl rfl ?_
  obtain ⟨q20, hl, h⟩ := bind_some9 h
  refine it_ev (W := fun (s : Int32 × Mem) => ∀ G, LM vc 0 535 s.2 F G → Ev g (d + 1) m_Shop_copyFrom 141 [some (.inr (0, off 9 j0)), some (.inr (0, off 9 j1)), some (.inl (.int s.1))] [] (G, nx) 0 0 (pRW vc 0 535 rV o F nx)) (X := fun z => z = q20) rfl (fun s9 o9 hs kC9 kX9 => ?_) LIM _ hl G hG
  intro G hG
  refine ws_Shop_copyFrom_141 d hv0 hv1 hG hs kC9 (fun r_ e G hG => ?_)
  · obtain rfl := (kX9 _ e).symm
    refine cw_iconst 0 d_Shop_copyFrom_168 rfl ?_
    refine cw_istoreN_n 2 0 rfl [some (.inr (0, off 9 j0)), some (.inr (0, off 9 j1)), some (.inl (.int 0))] d_Shop_copyFrom_169 rfl rfl rfl ?_
    obtain ⟨q21, hl, h⟩ := bind_some9 h
    refine it_ev (W := fun (s : Int32 × Mem) => ∀ G, LM vc 0 535 s.2 F G → Ev g (d + 1) m_Shop_copyFrom 170 [some (.inr (0, off 9 j0)), some (.inr (0, off 9 j1)), some (.inl (.int s.1))] [] (G, nx) 0 0 (pRW vc 0 535 rV o F nx)) (X := fun z => z = q21) rfl (fun s9 o9 hs kC9 kX9 => ?_) LIM _ hl G hG
    intro G hG
    refine ws_Shop_copyFrom_170 d hv0 hv1 hG hs kC9 (fun r_ e G hG => ?_)
    · obtain rfl := (kX9 _ e).symm
      have hP := kE _ (Option.some.inj h).symm
      exact ev_return (st := []) rfl d_Shop_copyFrom_196 (by rw [hP]; exact ⟨rfl, hG, rfl⟩)

/-- ProphecyShop$History.record -/
def f_History_record (j1 : Nat) (μ : Mem) : Option (Mem) :=
  ((if (μ 2 0 1) < 8 then (some (μ)) else (((f_History_forgetOldest μ)).bind (fun r6 => some (r6))) : Option (Mem))).bind (fun q1 => chk (inb (q1 2 0 1) 8) (chk (decide ((q1 34 0 (q1 2 0 1).toNatClampNeg).toNatClampNeg < 12)) (((f_Shop_copyFrom ((q1 34 0 (q1 2 0 1).toNatClampNeg).toNatClampNeg) j1 q1)).bind (fun r4 => nm (st3 r4 2 0 1 ((r4 2 0 1) + 1)) (fun μ5 => some μ5)))))
set_option maxRecDepth 100000 in
set_option maxHeartbeats 4000000 in
theorem w_History_record {g : GL} {F G : RG} {nx : Nat} (d : Nat) {j1 : Nat} {μ : Mem} (hv1 : vc 9 j1)  {o : Mem} (hG : LM vc 0 535 μ F G) (h : f_History_record j1 μ = some o) : Mt g (d + 2) m_History_record [.inr (0, off 2 0), .inr (0, off 9 j1)] (G, nx) 0 0 (pRW vc 0 535 rV o F nx) := by
  unfold f_History_record at h
  have kE : ∀ v, o = v → pRW vc 0 535 rV o F nx = pRW vc 0 535 rV v F nx := fun v e => by subst e; rfl
  refine Mt.of9 [some (.inr (0, off 2 0)), some (.inr (0, off 9 j1))] (by decide +kernel) rfl rfl rfl rfl ?_
  refine ev_aload_n (k0 := 0) rfl d_History_record_0 ?_
  refine cv_get9 (.inl (.int (μ 2 0 1))) hG v_2 fg_History_17_2 rfl rfl d_History_record_1 ?_
  refine cw_bipush 8 d_History_record_4 rfl ?_
  obtain ⟨q1, hj, h⟩ := bind_some9 h
  have K_q1 : ∀ G, LM vc 0 535 q1 F G → Ev g (d + 2) m_History_record 13 [some (.inr (0, off 2 0)), some (.inr (0, off 9 j1))] [] (G, nx) 0 0 (pRW vc 0 535 rV o F nx) := by
    intro G hG
    refine ev_aload_n (k0 := 0) rfl d_History_record_13 ?_
    refine cv_get9 (.inr (0, off 34 0)) hG v_2 fg_History_11_2 rfl rfl d_History_record_14 ?_
    refine ev_aload_n (k0 := 0) rfl d_History_record_17 ?_
    refine cv_get9 (.inl (.int (q1 2 0 1))) hG v_2 fg_History_17_2 rfl rfl d_History_record_18 ?_
    obtain ⟨b2, h⟩ := chk_some h
    obtain ⟨b3, h⟩ := chk_some h
    refine cv_aald (.inr (0, off 9 ((q1 34 0 (q1 2 0 1).toNatClampNeg).toNatClampNeg))) hG v_34 rfl rfl rfl b2 rfl d_History_record_21 ?_
    refine ev_aload_n (k0 := 1) rfl d_History_record_22 ?_
    obtain ⟨r4, hr4, h⟩ := bind_some9 h
    refine cv_V (d := d + 1) (mc1 := 0) (ms1 := 0) (mc := 0) (ms := 0) [.inr (0, off 9 j1)] hG (show vc 9 _ from dlt9 b3) rfl lk_History_27 (w_Shop_copyFrom (d + 0) (show vc 9 _ from dlt9 b3) hv1 hG hr4) rfl rfl d_History_record_23 (aft_rw (fun G hG => ?_))
    refine Ev.at (pc' := 26) rfl (Ev.cong (st' := []) ?_ rfl rfl)
    refine ev_aload_n (k0 := 0) rfl d_History_record_26 ?_
    refine ev_dup rfl d_History_record_27 ?_
    refine cv_get9 (.inl (.int (r4 2 0 1))) hG v_2 fg_History_17_2 rfl rfl d_History_record_28 ?_
    refine cw_iconst 1 d_History_record_31 rfl ?_
    refine ev_iadd d_History_record_32 ?_
    obtain ⟨μ5, e_μ5, h⟩ := nm_some h
    refine cv_put (.inl (.int ((r4 2 0 1) + 1))) ((r4 2 0 1) + 1) hG okC v_2 fl_History_17_2 rfl rfl okv_int d_History_record_33 ?_
    intro G hG; rw [← e_μ5] at hG
    have hP := kE _ (Option.some.inj h).symm
    exact ev_return (st := []) rfl d_History_record_36 (by rw [hP]; exact ⟨rfl, hG, rfl⟩)
  clear h
  have h := hj
  refine ev_icmp_lt (tgt := 13) (by decide) d_History_record_6 (fun c => ?_) (fun c => ?_)
  · rw [if_pos c] at h
    obtain rfl := Option.some.inj h
    exact K_q1 G hG
  · rw [if_neg c] at h
    refine ev_aload_n (k0 := 0) rfl d_History_record_9 ?_
    obtain ⟨r6, hr6, h⟩ := bind_some9 h
    refine cv_V (d := d + 1) (mc1 := 0) (ms1 := 0) (mc := 0) (ms := 0) [] hG v_2 rfl lk_History_24 (w_History_forgetOldest (d + 1) hG hr6) rfl rfl d_History_record_10 (aft_rw (fun G hG => ?_))
    refine Ev.at (pc' := 13) rfl (Ev.cong (st' := []) ?_ rfl rfl)
    obtain rfl := Option.some.inj h
    exact K_q1 G hG

/-- ProphecyShop$History.takeBack -/
def f_History_takeBack (j1 : Nat) (μ : Mem) : Option (Mem) :=
  if (μ 2 0 1) ≤ 0 then some μ else (nm (st3 μ 2 0 1 ((μ 2 0 1) - 1)) (fun μ1 => chk (inb (μ1 2 0 1) 8) (chk (decide ((μ1 34 0 (μ1 2 0 1).toNatClampNeg).toNatClampNeg < 12)) (((f_Shop_copyFrom j1 ((μ1 34 0 (μ1 2 0 1).toNatClampNeg).toNatClampNeg) μ1)).bind (fun r4 => some r4)))))
set_option maxRecDepth 100000 in
set_option maxHeartbeats 4000000 in
theorem w_History_takeBack {g : GL} {F G : RG} {nx : Nat} (d : Nat) {j1 : Nat} {μ : Mem} (hv1 : vc 9 j1)  {o : Mem} (hG : LM vc 0 535 μ F G) (h : f_History_takeBack j1 μ = some o) : Mt g (d + 2) m_History_takeBack [.inr (0, off 2 0), .inr (0, off 9 j1)] (G, nx) 0 0 (pRW vc 0 535 rV o F nx) := by
  unfold f_History_takeBack at h
  have kE : ∀ v, o = v → pRW vc 0 535 rV o F nx = pRW vc 0 535 rV v F nx := fun v e => by subst e; rfl
  refine Mt.of9 [some (.inr (0, off 2 0)), some (.inr (0, off 9 j1))] (by decide +kernel) rfl rfl rfl rfl ?_
  refine ev_aload_n (k0 := 0) rfl d_History_takeBack_0 ?_
  refine cv_get9 (.inl (.int (μ 2 0 1))) hG v_2 fg_History_17_2 rfl rfl d_History_takeBack_1 ?_
  refine ev_if_le (tgt := 30) (by decide) d_History_takeBack_4 (fun c => ?_) (fun c => ?_)
  · rw [if_pos c] at h
    have hP := kE _ (Option.some.inj h).symm
    exact ev_return (st := []) rfl d_History_takeBack_30 (by rw [hP]; exact ⟨rfl, hG, rfl⟩)
  · rw [if_neg c] at h
    refine ev_aload_n (k0 := 0) rfl d_History_takeBack_7 ?_
    refine ev_dup rfl d_History_takeBack_8 ?_
    refine cv_get9 (.inl (.int (μ 2 0 1))) hG v_2 fg_History_17_2 rfl rfl d_History_takeBack_9 ?_
    refine cw_iconst 1 d_History_takeBack_12 rfl ?_
    refine ev_isub d_History_takeBack_13 ?_
    obtain ⟨μ1, e_μ1, h⟩ := nm_some h
    refine cv_put (.inl (.int ((μ 2 0 1) - 1))) ((μ 2 0 1) - 1) hG okC v_2 fl_History_17_2 rfl rfl okv_int d_History_takeBack_14 ?_
    intro G hG; rw [← e_μ1] at hG
    refine ev_aload_n (k0 := 1) rfl d_History_takeBack_17 ?_
    refine ev_aload_n (k0 := 0) rfl d_History_takeBack_18 ?_
    refine cv_get9 (.inr (0, off 34 0)) hG v_2 fg_History_11_2 rfl rfl d_History_takeBack_19 ?_
    refine ev_aload_n (k0 := 0) rfl d_History_takeBack_22 ?_
    refine cv_get9 (.inl (.int (μ1 2 0 1))) hG v_2 fg_History_17_2 rfl rfl d_History_takeBack_23 ?_
    refine Ev.at (pc' := 26) rfl ?_
    obtain ⟨b2, h⟩ := chk_some h
    obtain ⟨b3, h⟩ := chk_some h
    refine cv_aald (.inr (0, off 9 ((μ1 34 0 (μ1 2 0 1).toNatClampNeg).toNatClampNeg))) hG v_34 rfl rfl rfl b2 rfl d_History_takeBack_26 ?_
    obtain ⟨r4, hr4, h⟩ := bind_some9 h
    refine cv_V (d := d + 1) (mc1 := 0) (ms1 := 0) (mc := 0) (ms := 0) [.inr (0, off 9 ((μ1 34 0 (μ1 2 0 1).toNatClampNeg).toNatClampNeg))] hG hv1 rfl lk_History_27 (w_Shop_copyFrom (d + 0) hv1 (show vc 9 _ from dlt9 b3) hG hr4) rfl rfl d_History_takeBack_27 (aft_rw (fun G hG => ?_))
    refine Ev.at (pc' := 30) rfl (Ev.cong (st' := []) ?_ rfl rfl)
    have hP := kE _ (Option.some.inj h).symm
    exact ev_return (st := []) rfl d_History_takeBack_30 (by rw [hP]; exact ⟨rfl, hG, rfl⟩)

/-- ProphecyShop$Text.at -/
def f_Text_at (x1 : Int32) (μ : Mem) : Option (Int32) :=
  if x1 < 0 then (some ((-1))) else (if (μ 11 0 1) ≤ x1 then (some ((-1))) else (chk (inb x1 800) (some (μ 20 0 x1.toNatClampNeg))))
set_option maxRecDepth 100000 in
set_option maxHeartbeats 4000000 in
theorem w_Text_at {g : GL} {F G : RG} {nx : Nat} (d : Nat) {x1 : Int32} {μ : Mem}   {o : Int32} (hG : LM vc 0 535 μ F G) (h : f_Text_at x1 μ = some o) : Mt g (d + 0) m_Text_at [.inr (0, off 11 0), .inl (.int x1)] (G, nx) 0 0 (pRO (rI o) (G, nx)) := by
  unfold f_Text_at at h
  have kE : ∀ v, o = v → pRO (rI o) (G, nx) = pRO (rI v) (G, nx) := fun v e => by subst e; rfl
  refine Mt.of9 [some (.inr (0, off 11 0)), some (.inl (.int x1))] (by decide +kernel) rfl rfl rfl rfl ?_
  refine ev_iload_n (k0 := 1) rfl d_Text_at_0 ?_
  refine ev_if_lt (tgt := 21) (by decide) d_Text_at_1 (fun c => ?_) (fun c => ?_)
  · rw [if_pos c] at h
    refine cw_iconst (-1) d_Text_at_21 rfl ?_
    have hP := kE _ (Option.some.inj h).symm
    exact ev_ireturn (st := []) rfl rfl d_Text_at_22 (by rw [hP]; exact ⟨rfl, rfl⟩)
  · rw [if_neg c] at h
    refine ev_iload_n (k0 := 1) rfl d_Text_at_4 ?_
    refine ev_aload_n (k0 := 0) rfl d_Text_at_5 ?_
    refine cv_get9 (.inl (.int (μ 11 0 1))) hG v_11 fg_Text_15_11 rfl rfl d_Text_at_6 ?_
    refine ev_icmp_ge (tgt := 21) (by decide) d_Text_at_9 (fun c => ?_) (fun c => ?_)
    · rw [if_pos c] at h
      refine cw_iconst (-1) d_Text_at_21 rfl ?_
      have hP := kE _ (Option.some.inj h).symm
      exact ev_ireturn (st := []) rfl rfl d_Text_at_22 (by rw [hP]; exact ⟨rfl, rfl⟩)
    · rw [if_neg c] at h
      refine ev_aload_n (k0 := 0) rfl d_Text_at_12 ?_
      refine cv_get9 (.inr (0, off 20 0)) hG v_11 fg_Text_9_11 rfl rfl d_Text_at_13 ?_
      refine ev_iload_n (k0 := 1) rfl d_Text_at_16 ?_
      obtain ⟨b1, h⟩ := chk_some h
      refine cv_iald hG v_20 rfl rfl b1 rfl d_Text_at_17 ?_
      refine ev_goto (tgt := 22) (by decide) d_Text_at_18 ?_
      have hP := kE _ (Option.some.inj h).symm
      exact ev_ireturn (st := []) rfl rfl d_Text_at_22 (by rw [hP]; exact ⟨rfl, rfl⟩)

/-- ProphecyShop$Text.bytesIn -/
def s_Text_bytesIn_5 (x0 : Int32) (x1 : Int32) (x2 : Int32) (μ : Mem) : Option ((Int32 × Int32) ⊕ (Int32)) :=
  if x2 < 0 then (some (.inr x1)) else (if (((x0.toUInt32 >>> (x2.toUInt32 &&& Int32.toUInt32 31)).toInt32) &&& 255) = 0 then (some (.inl ((x1, x2 + (-8))))) else (some (.inl ((x1 + 1, x2 + (-8))))))
def f_Text_bytesIn (x0 : Int32) (μ : Mem) : Option (Int32) :=
  (it (fun (s : Int32 × Int32) => s_Text_bytesIn_5 x0 s.1 s.2 μ) LIM ((0, 24))).bind (fun q1 => some q1)
set_option maxRecDepth 100000 in
set_option maxHeartbeats 4000000 in
theorem ws_Text_bytesIn_5 {g : GL} {F G : RG} {nx mc ms : Nat} {Post : RO → RM → Prop} (d : Nat) {x0 : Int32} {x1 : Int32} {x2 : Int32} {μ : Mem}   {o : (Int32 × Int32) ⊕ (Int32)} (hG : LM vc 0 535 μ F G) (h : s_Text_bytesIn_5 x0 x1 x2 μ = some o)
    (kC : ∀ s', o = .inl s' → Ev g (d + 0) m_Text_bytesIn 5 [some (.inl (.int x0)), some (.inl (.int s'.1)), some (.inl (.int s'.2))] [] (G, nx) mc ms Post)
    (kX : ∀ r, o = .inr r → Ev g (d + 0) m_Text_bytesIn 28 [none, some (.inl (.int r)), none] [] (G, nx) mc ms Post)
    : Ev g (d + 0) m_Text_bytesIn 5 [some (.inl (.int x0)), some (.inl (.int x1)), some (.inl (.int x2))] [] (G, nx) mc ms Post := by
  unfold s_Text_bytesIn_5 at h
  refine ev_iload_n (k0 := 2) rfl d_Text_bytesIn_5 ?_
  refine ev_if_lt (tgt := 28) (by decide) d_Text_bytesIn_6 (fun c => ?_) (fun c => ?_)
  · rw [if_pos c] at h
    exact Ev.sub (.n (.s (.n LSb.z))) (kX _ (Option.some.inj h).symm)
  · rw [if_neg c] at h
    refine ev_iload_n (k0 := 0) rfl d_Text_bytesIn_9 ?_
    refine ev_iload_n (k0 := 2) rfl d_Text_bytesIn_10 ?_
    refine ev_iushr d_Text_bytesIn_11 ?_
    refine cw_sipush 255 d_Text_bytesIn_12 rfl ?_
    refine ev_iand d_Text_bytesIn_15 ?_
    refine ev_if_eq (tgt := 22) (by decide) d_Text_bytesIn_16 (fun c => ?_) (fun c => ?_)
    · rw [if_pos c] at h
      refine cw_iincN 2 (-8) [some (.inl (.int x0)), some (.inl (.int x1)), some (.inl (.int (x2 + (-8))))] d_Text_bytesIn_22 rfl rfl rfl rfl rfl ?_
      refine ev_goto (tgt := 5) (by decide) d_Text_bytesIn_25 ?_
      exact kC _ (Option.some.inj h).symm
    · rw [if_neg c] at h
      refine cw_iincN 1 1 [some (.inl (.int x0)), some (.inl (.int (x1 + 1))), some (.inl (.int x2))] d_Text_bytesIn_19 rfl rfl rfl rfl rfl ?_
      refine cw_iincN 2 (-8) [some (.inl (.int x0)), some (.inl (.int (x1 + 1))), some (.inl (.int (x2 + (-8))))] d_Text_bytesIn_22 rfl rfl rfl rfl rfl ?_
      refine ev_goto (tgt := 5) (by decide) d_Text_bytesIn_25 ?_
      exact kC _ (Option.some.inj h).symm
set_option maxRecDepth 100000 in
set_option maxHeartbeats 4000000 in
theorem w_Text_bytesIn {g : GL} {F G : RG} {nx : Nat} (d : Nat) {x0 : Int32} {μ : Mem}   {o : Int32} (hG : LM vc 0 535 μ F G) (h : f_Text_bytesIn x0 μ = some o) : Mt g (d + 0) m_Text_bytesIn [.inl (.int x0)] (G, nx) 0 0 (pRO (rI o) (G, nx)) := by
  unfold f_Text_bytesIn at h
  have kE : ∀ v, o = v → pRO (rI o) (G, nx) = pRO (rI v) (G, nx) := fun v e => by subst e; rfl
  refine Mt.of9 [some (.inl (.int x0)), none, none] (by decide +kernel) rfl rfl rfl rfl ?_
  refine cw_iconst 0 d_Text_bytesIn_0 rfl ?_
  refine cw_istoreN_n 1 0 rfl [some (.inl (.int x0)), some (.inl (.int 0)), none] d_Text_bytesIn_1 rfl rfl rfl ?_
  refine cw_bipush 24 d_Text_bytesIn_2 rfl ?_
  refine cw_istoreN_n 2 24 rfl [some (.inl (.int x0)), some (.inl (.int 0)), some (.inl (.int 24))] d_Text_bytesIn_4 rfl rfl rfl ?_
  obtain ⟨q1, hl, h⟩ := bind_some9 h
  refine it_ev (W := fun (s : Int32 × Int32) => Ev g (d + 0) m_Text_bytesIn 5 [some (.inl (.int x0)), some (.inl (.int s.1)), some (.inl (.int s.2))] [] (G, nx) 0 0 (pRO (rI o) (G, nx))) (X := fun z => z = q1) rfl (fun s9 o9 hs kC9 kX9 => ?_) LIM _ hl
  refine ws_Text_bytesIn_5 d  hG hs kC9 (fun r_ e => ?_)
  · obtain rfl := (kX9 _ e).symm
    refine ev_iload_n (k0 := 1) rfl d_Text_bytesIn_28 ?_
    have hP := kE _ (Option.some.inj h).symm
    exact ev_ireturn (st := []) rfl rfl d_Text_bytesIn_29 (by rw [hP]; exact ⟨rfl, rfl⟩)

/-- ProphecyShop$Text.put -/
def f_Text_put (x1 : Int32) (μ : Mem) : Option (Mem) :=
  if (800 : Int32) ≤ (μ 11 0 1) then some μ else (chk (inb (μ 11 0 1) 800) (nm (st3 μ 20 0 (μ 11 0 1).toNatClampNeg x1) (fun μ2 => nm (st3 μ2 11 0 1 ((μ2 11 0 1) + 1)) (fun μ3 => some μ3))))
set_option maxRecDepth 100000 in
set_option maxHeartbeats 4000000 in
theorem w_Text_put {g : GL} {F G : RG} {nx : Nat} (d : Nat) {x1 : Int32} {μ : Mem}   {o : Mem} (hG : LM vc 0 535 μ F G) (h : f_Text_put x1 μ = some o) : Mt g (d + 0) m_Text_put [.inr (0, off 11 0), .inl (.int x1)] (G, nx) 0 0 (pRW vc 0 535 rV o F nx) := by
  unfold f_Text_put at h
  have kE : ∀ v, o = v → pRW vc 0 535 rV o F nx = pRW vc 0 535 rV v F nx := fun v e => by subst e; rfl
  refine Mt.of9 [some (.inr (0, off 11 0)), some (.inl (.int x1))] (by decide +kernel) rfl rfl rfl rfl ?_
  refine ev_aload_n (k0 := 0) rfl d_Text_put_0 ?_
  refine cv_get9 (.inl (.int (μ 11 0 1))) hG v_11 fg_Text_15_11 rfl rfl d_Text_put_1 ?_
  refine cw_sipush 800 d_Text_put_4 rfl ?_
  refine ev_icmp_ge (tgt := 30) (by decide) d_Text_put_7 (fun c => ?_) (fun c => ?_)
  · rw [if_pos c] at h
    have hP := kE _ (Option.some.inj h).symm
    exact ev_return (st := []) rfl d_Text_put_30 (by rw [hP]; exact ⟨rfl, hG, rfl⟩)
  · rw [if_neg c] at h
    refine ev_aload_n (k0 := 0) rfl d_Text_put_10 ?_
    refine cv_get9 (.inr (0, off 20 0)) hG v_11 fg_Text_9_11 rfl rfl d_Text_put_11 ?_
    refine ev_aload_n (k0 := 0) rfl d_Text_put_14 ?_
    refine cv_get9 (.inl (.int (μ 11 0 1))) hG v_11 fg_Text_15_11 rfl rfl d_Text_put_15 ?_
    refine ev_iload_n (k0 := 1) rfl d_Text_put_18 ?_
    obtain ⟨b1, h⟩ := chk_some h
    obtain ⟨μ2, e_μ2, h⟩ := nm_some h
    refine cv_iast hG okC v_20 rfl rfl b1 rfl d_Text_put_19 ?_
    intro G hG; rw [← e_μ2] at hG
    refine ev_aload_n (k0 := 0) rfl d_Text_put_20 ?_
    refine ev_dup rfl d_Text_put_21 ?_
    refine cv_get9 (.inl (.int (μ2 11 0 1))) hG v_11 fg_Text_15_11 rfl rfl d_Text_put_22 ?_
    refine cw_iconst 1 d_Text_put_25 rfl ?_
    refine ev_iadd d_Text_put_26 ?_
    refine Ev.at (pc' := 27) rfl ?_
    obtain ⟨μ3, e_μ3, h⟩ := nm_some h
    refine cv_put (.inl (.int ((μ2 11 0 1) + 1))) ((μ2 11 0 1) + 1) hG okC v_11 fl_Text_15_11 rfl rfl okv_int d_Text_put_27 ?_
    intro G hG; rw [← e_μ3] at hG
    have hP := kE _ (Option.some.inj h).symm
    exact ev_return (st := []) rfl d_Text_put_30 (by rw [hP]; exact ⟨rfl, hG, rfl⟩)

/-- ProphecyShop$Text.putBytesOf -/
def s_Text_putBytesOf_3 (x1 : Int32) (x2 : Int32) (μ : Mem) : Option ((Int32 × Mem) ⊕ (Mem)) :=
  if x2 < 0 then (some (.inr μ)) else (nm (((x1.toUInt32 >>> (x2.toUInt32 &&& Int32.toUInt32 31)).toInt32) &&& 255 : Int32) (fun v1 => if v1 = 0 then (some (.inl ((x2 + (-8), μ)))) else (((f_Text_put v1 μ)).bind (fun r2 => some (.inl ((x2 + (-8), r2)))))))
def f_Text_putBytesOf (x1 : Int32) (μ : Mem) : Option (Mem) :=
  (it (fun (s : Int32 × Mem) => s_Text_putBytesOf_3 x1 s.1 s.2) LIM ((24, μ))).bind (fun q1 => some q1)
set_option maxRecDepth 100000 in
set_option maxHeartbeats 4000000 in
theorem ws_Text_putBytesOf_3 {g : GL} {F G : RG} {nx mc ms : Nat} {Post : RO → RM → Prop} (d : Nat) {x1 : Int32} {x2 : Int32} {μ : Mem}   {o : (Int32 × Mem) ⊕ (Mem)} (hG : LM vc 0 535 μ F G) (h : s_Text_putBytesOf_3 x1 x2 μ = some o)
    (kC : ∀ s', o = .inl s' → ∀ G, LM vc 0 535 s'.2 F G → Ev g (d + 1) m_Text_putBytesOf 3 [some (.inr (0, off 11 0)), some (.inl (.int x1)), some (.inl (.int s'.1)), none] [] (G, nx) mc ms Post)
    (kX : ∀ r, o = .inr r → ∀ G, LM vc 0 535 r F G → Ev g (d + 1) m_Text_putBytesOf 30 [none, none, none, none] [] (G, nx) mc ms Post)
    : Ev g (d + 1) m_Text_putBytesOf 3 [some (.inr (0, off 11 0)), some (.inl (.int x1)), some (.inl (.int x2)), none] [] (G, nx) mc ms Post := by
  unfold s_Text_putBytesOf_3 at h
  refine ev_iload_n (k0 := 2) rfl d_Text_putBytesOf_3 ?_
  refine ev_if_lt (tgt := 30) (by decide) d_Text_putBytesOf_4 (fun c => ?_) (fun c => ?_)
  · rw [if_pos c] at h
    exact Ev.sub (.n (.n (.n (.n LSb.z)))) (kX _ (Option.some.inj h).symm G hG)
  · rw [if_neg c] at h
    refine ev_iload_n (k0 := 1) rfl d_Text_putBytesOf_7 ?_
    refine ev_iload_n (k0 := 2) rfl d_Text_putBytesOf_8 ?_
    refine ev_iushr d_Text_putBytesOf_9 ?_
    refine cw_sipush 255 d_Text_putBytesOf_10 rfl ?_
    refine ev_iand d_Text_putBytesOf_13 ?_
    obtain ⟨v1, e_v1, h⟩ := nm_some h
    refine cw_istoreN_n 3 v1 e_v1 [some (.inr (0, off 11 0)), some (.inl (.int x1)), some (.inl (.int x2)), some (.inl (.int v1))] d_Text_putBytesOf_14 rfl rfl rfl ?_
    refine ev_iload_n (k0 := 3) rfl d_Text_putBytesOf_15 ?_
    refine ev_if_eq (tgt := 24) (by decide) d_Text_putBytesOf_16 (fun c => ?_) (fun c => ?_)
    · rw [if_pos c] at h
      refine cw_iincN 2 (-8) [some (.inr (0, off 11 0)), some (.inl (.int x1)), some (.inl (.int (x2 + (-8)))), some (.inl (.int v1))] d_Text_putBytesOf_24 rfl rfl rfl rfl rfl ?_
      refine ev_goto (tgt := 3) (by decide) d_Text_putBytesOf_27 ?_
      exact Ev.sub (.s (.s (.s (.n LSb.z)))) (kC _ (Option.some.inj h).symm G hG)
    · rw [if_neg c] at h
      refine ev_aload_n (k0 := 0) rfl d_Text_putBytesOf_19 ?_
      refine ev_iload_n (k0 := 3) rfl d_Text_putBytesOf_20 ?_
      obtain ⟨r2, hr2, h⟩ := bind_some9 h
      refine Ev.z9 ?_
      refine cv_V (d := d + 0) (mc1 := 0) (ms1 := 0) (mc := mc) (ms := ms) [.inl (.int v1)] hG v_11 rfl lk_Text_19 (w_Text_put (d + 0) hG hr2) rfl rfl d_Text_putBytesOf_21 (aft_rw (fun G hG => ?_))
      refine Ev.at (pc' := 24) rfl (Ev.cong (st' := []) ?_ rfl rfl)
      refine cw_iincN 2 (-8) [some (.inr (0, off 11 0)), some (.inl (.int x1)), some (.inl (.int (x2 + (-8)))), some (.inl (.int v1))] d_Text_putBytesOf_24 rfl rfl rfl rfl rfl ?_
      refine ev_goto (tgt := 3) (by decide) d_Text_putBytesOf_27 ?_
      exact Ev.sub (.s (.s (.s (.n LSb.z)))) (kC _ (Option.some.inj h).symm G hG)
set_option maxRecDepth 100000 in
set_option maxHeartbeats 4000000 in
theorem w_Text_putBytesOf {g : GL} {F G : RG} {nx : Nat} (d : Nat) {x1 : Int32} {μ : Mem}   {o : Mem} (hG : LM vc 0 535 μ F G) (h : f_Text_putBytesOf x1 μ = some o) : Mt g (d + 1) m_Text_putBytesOf [.inr (0, off 11 0), .inl (.int x1)] (G, nx) 0 0 (pRW vc 0 535 rV o F nx) := by
  unfold f_Text_putBytesOf at h
  have kE : ∀ v, o = v → pRW vc 0 535 rV o F nx = pRW vc 0 535 rV v F nx := fun v e => by subst e; rfl
  refine Mt.of9 [some (.inr (0, off 11 0)), some (.inl (.int x1)), none, none] (by decide +kernel) rfl rfl rfl rfl ?_
  refine cw_bipush 24 d_Text_putBytesOf_0 rfl ?_
  refine cw_istoreN_n 2 24 rfl [some (.inr (0, off 11 0)), some (.inl (.int x1)), some (.inl (.int 24)), none] d_Text_putBytesOf_2 rfl rfl rfl ?_
  obtain ⟨q1, hl, h⟩ := bind_some9 h
  refine it_ev (W := fun (s : Int32 × Mem) => ∀ G, LM vc 0 535 s.2 F G → Ev g (d + 1) m_Text_putBytesOf 3 [some (.inr (0, off 11 0)), some (.inl (.int x1)), some (.inl (.int s.1)), none] [] (G, nx) 0 0 (pRW vc 0 535 rV o F nx)) (X := fun z => z = q1) rfl (fun s9 o9 hs kC9 kX9 => ?_) LIM _ hl G hG
  intro G hG
  refine ws_Text_putBytesOf_3 d  hG hs kC9 (fun r_ e G hG => ?_)
  · obtain rfl := (kX9 _ e).symm
    have hP := kE _ (Option.some.inj h).symm
    exact ev_return (st := []) rfl d_Text_putBytesOf_30 (by rw [hP]; exact ⟨rfl, hG, rfl⟩)

/-- ProphecyShop$Text.shortenTo -/
def f_Text_shortenTo (x1 : Int32) (μ : Mem) : Option (Mem) :=
  nm (st3 μ 11 0 1 x1) (fun μ1 => some μ1)
set_option maxRecDepth 100000 in
set_option maxHeartbeats 4000000 in
theorem w_Text_shortenTo {g : GL} {F G : RG} {nx : Nat} (d : Nat) {x1 : Int32} {μ : Mem}   {o : Mem} (hG : LM vc 0 535 μ F G) (h : f_Text_shortenTo x1 μ = some o) : Mt g (d + 0) m_Text_shortenTo [.inr (0, off 11 0), .inl (.int x1)] (G, nx) 0 0 (pRW vc 0 535 rV o F nx) := by
  unfold f_Text_shortenTo at h
  have kE : ∀ v, o = v → pRW vc 0 535 rV o F nx = pRW vc 0 535 rV v F nx := fun v e => by subst e; rfl
  refine Mt.of9 [some (.inr (0, off 11 0)), some (.inl (.int x1))] (by decide +kernel) rfl rfl rfl rfl ?_
  refine ev_aload_n (k0 := 0) rfl d_Text_shortenTo_0 ?_
  refine ev_iload_n (k0 := 1) rfl d_Text_shortenTo_1 ?_
  obtain ⟨μ1, e_μ1, h⟩ := nm_some h
  refine cv_put (.inl (.int x1)) x1 hG okC v_11 fl_Text_15_11 rfl rfl okv_int d_Text_shortenTo_2 ?_
  intro G hG; rw [← e_μ1] at hG
  have hP := kE _ (Option.some.inj h).symm
  exact ev_return (st := []) rfl d_Text_shortenTo_5 (by rw [hP]; exact ⟨rfl, hG, rfl⟩)

/-- ProphecyShop$Text.size -/
def f_Text_size  (μ : Mem) : Option (Int32) :=
  some (μ 11 0 1)
set_option maxRecDepth 100000 in
set_option maxHeartbeats 4000000 in
theorem w_Text_size {g : GL} {F G : RG} {nx : Nat} (d : Nat)  {μ : Mem}   {o : Int32} (hG : LM vc 0 535 μ F G) (h : f_Text_size  μ = some o) : Mt g (d + 0) m_Text_size [.inr (0, off 11 0)] (G, nx) 0 0 (pRO (rI o) (G, nx)) := by
  unfold f_Text_size at h
  have kE : ∀ v, o = v → pRO (rI o) (G, nx) = pRO (rI v) (G, nx) := fun v e => by subst e; rfl
  refine Mt.of9 [some (.inr (0, off 11 0))] (by decide +kernel) rfl rfl rfl rfl ?_
  refine ev_aload_n (k0 := 0) rfl d_Text_size_0 ?_
  refine cv_get9 (.inl (.int (μ 11 0 1))) hG v_11 fg_Text_15_11 rfl rfl d_Text_size_1 ?_
  have hP := kE _ (Option.some.inj h).symm
  exact ev_ireturn (st := []) rfl rfl d_Text_size_4 (by rw [hP]; exact ⟨rfl, rfl⟩)

/-- ProphecyShop.isWithin -/
def f_P_isWithin (x0 : Int32) (x1 : Int32) (x2 : Int32) (μ : Mem) : Option (Int32) :=
  if x0 < x1 then some 0 else (if x2 < x0 then some 0 else (some 1))
set_option maxRecDepth 100000 in
set_option maxHeartbeats 4000000 in
theorem w_P_isWithin {g : GL} {F G : RG} {nx : Nat} (d : Nat) {x0 : Int32} {x1 : Int32} {x2 : Int32} {μ : Mem}   {o : Int32} (hG : LM vc 0 535 μ F G) (h : f_P_isWithin x0 x1 x2 μ = some o) : Mt g (d + 0) m_P_isWithin [.inl (.int x0), .inl (.int x1), .inl (.int x2)] (G, nx) 0 0 (pRO (rI o) (G, nx)) := by
  unfold f_P_isWithin at h
  have kE : ∀ v, o = v → pRO (rI o) (G, nx) = pRO (rI v) (G, nx) := fun v e => by subst e; rfl
  refine Mt.of9 [some (.inl (.int x0)), some (.inl (.int x1)), some (.inl (.int x2))] (by decide +kernel) rfl rfl rfl rfl ?_
  refine ev_iload_n (k0 := 0) rfl d_P_isWithin_0 ?_
  refine ev_iload_n (k0 := 1) rfl d_P_isWithin_1 ?_
  refine ev_icmp_lt (tgt := 14) (by decide) d_P_isWithin_2 (fun c => ?_) (fun c => ?_)
  · rw [if_pos c] at h
    refine cw_iconst 0 d_P_isWithin_14 rfl ?_
    have hP := kE _ (Option.some.inj h).symm
    exact ev_ireturn (st := []) rfl rfl d_P_isWithin_15 (by rw [hP]; exact ⟨rfl, rfl⟩)
  · rw [if_neg c] at h
    refine ev_iload_n (k0 := 0) rfl d_P_isWithin_5 ?_
    refine ev_iload_n (k0 := 2) rfl d_P_isWithin_6 ?_
    refine ev_icmp_gt (tgt := 14) (by decide) d_P_isWithin_7 (fun c => ?_) (fun c => ?_)
    · rw [if_pos c] at h
      refine cw_iconst 0 d_P_isWithin_14 rfl ?_
      have hP := kE _ (Option.some.inj h).symm
      exact ev_ireturn (st := []) rfl rfl d_P_isWithin_15 (by rw [hP]; exact ⟨rfl, rfl⟩)
    · rw [if_neg c] at h
      refine cw_iconst 1 d_P_isWithin_10 rfl ?_
      refine ev_goto (tgt := 15) (by decide) d_P_isWithin_11 ?_
      have hP := kE _ (Option.some.inj h).symm
      exact ev_ireturn (st := []) rfl rfl d_P_isWithin_15 (by rw [hP]; exact ⟨rfl, rfl⟩)

/-- ProphecyShop$Shop.faultOfDays -/
def f_Shop_faultOfDays (j0 : Nat) (x1 : Int32) (μ : Mem) : Option (Int32) :=
  ((f_P_isWithin x1 1 60 μ)).bind (fun r1 => if r1 = 0 then some 2 else (if ((μ 9 j0 1) + x1) ≤ 9999 then some 0 else (some 3)))
set_option maxRecDepth 100000 in
set_option maxHeartbeats 4000000 in
theorem w_Shop_faultOfDays {g : GL} {F G : RG} {nx : Nat} (d : Nat) {j0 : Nat} {x1 : Int32} {μ : Mem} (hv0 : vc 9 j0)  {o : Int32} (hG : LM vc 0 535 μ F G) (h : f_Shop_faultOfDays j0 x1 μ = some o) : Mt g (d + 1) m_Shop_faultOfDays [.inr (0, off 9 j0), .inl (.int x1)] (G, nx) 0 0 (pRO (rI o) (G, nx)) := by
  unfold f_Shop_faultOfDays at h
  have kE : ∀ v, o = v → pRO (rI o) (G, nx) = pRO (rI v) (G, nx) := fun v e => by subst e; rfl
  refine Mt.of9 [some (.inr (0, off 9 j0)), some (.inl (.int x1))] (by decide +kernel) rfl rfl rfl rfl ?_
  refine ev_iload_n (k0 := 1) rfl d_Shop_faultOfDays_0 ?_
  refine cw_iconst 1 d_Shop_faultOfDays_1 rfl ?_
  refine cw_bipush 60 d_Shop_faultOfDays_2 rfl ?_
  obtain ⟨r1, hr1, h⟩ := bind_some9 h
  refine cw_SN (d := d + 0) (mc1 := 0) (ms1 := 0) (mc := 0) (ms := 0) [.inl (.int x1), .inl (.int 1), .inl (.int 60)] lk_Shop_109 (w_P_isWithin (d + 0) hG hr1) rfl rfl d_Shop_faultOfDays_4 (aft_ro ?_)
  refine Ev.at (pc' := 7) rfl (Ev.cong (st' := [.inl (.int r1)]) ?_ rfl rfl)
  refine ev_if_ne (tgt := 12) (by decide) d_Shop_faultOfDays_7 (fun c => ?_) (fun c => ?_)
  · rw [if_neg c] at h
    refine ev_aload_n (k0 := 0) rfl d_Shop_faultOfDays_12 ?_
    refine cv_get9 (.inl (.int (μ 9 j0 1))) hG hv0 fg_Shop_9_9 rfl rfl d_Shop_faultOfDays_13 ?_
    refine ev_iload_n (k0 := 1) rfl d_Shop_faultOfDays_16 ?_
    refine ev_iadd d_Shop_faultOfDays_17 ?_
    refine cw_sipush 9999 d_Shop_faultOfDays_18 rfl ?_
    refine ev_icmp_le (tgt := 28) (by decide) d_Shop_faultOfDays_21 (fun c => ?_) (fun c => ?_)
    · rw [if_pos c] at h
      refine cw_iconst 0 d_Shop_faultOfDays_28 rfl ?_
      have hP := kE _ (Option.some.inj h).symm
      exact ev_ireturn (st := []) rfl rfl d_Shop_faultOfDays_29 (by rw [hP]; exact ⟨rfl, rfl⟩)
    · rw [if_neg c] at h
      refine cw_iconst 3 d_Shop_faultOfDays_24 rfl ?_
      refine ev_goto (tgt := 29) (by decide) d_Shop_faultOfDays_25 ?_
      have hP := kE _ (Option.some.inj h).symm
      exact ev_ireturn (st := []) rfl rfl d_Shop_faultOfDays_29 (by rw [hP]; exact ⟨rfl, rfl⟩)
  · rw [if_pos c] at h
    refine cw_iconst 2 d_Shop_faultOfDays_10 rfl ?_
    have hP := kE _ (Option.some.inj h).symm
    exact ev_ireturn (st := []) rfl rfl d_Shop_faultOfDays_11 (by rw [hP]; exact ⟨rfl, rfl⟩)

/-- ProphecyShop.throwFor -/
def f_P_throwFor (x0 : Int32) (μ : Mem) : Option (Unit) :=
  if x0 = 1 then (none) else (if x0 = 2 then (none) else (if x0 = 3 then (none) else (some (()))))
set_option maxRecDepth 100000 in
set_option maxHeartbeats 4000000 in
theorem w_P_throwFor {g : GL} {F G : RG} {nx : Nat} (d : Nat) {x0 : Int32} {μ : Mem}   {o : Unit} (hG : LM vc 0 535 μ F G) (h : f_P_throwFor x0 μ = some o) : Mt g (d + 0) m_P_throwFor [.inl (.int x0)] (G, nx) 0 0 (pRO rV (G, nx)) := by
  unfold f_P_throwFor at h
  have kE : ∀ v, o = v → pRO rV (G, nx) = pRO rV (G, nx) := fun v e => by subst e; rfl
  refine Mt.of9 [some (.inl (.int x0))] (by decide +kernel) rfl rfl rfl rfl ?_
  refine ev_iload_n (k0 := 0) rfl d_P_throwFor_0 ?_
  refine cw_iconst 1 d_P_throwFor_1 rfl ?_
  refine ev_icmp_ne (tgt := 16) (by decide) d_P_throwFor_2 (fun c => ?_) (fun c => ?_)
  · rw [if_neg c] at h
    refine ev_iload_n (k0 := 0) rfl d_P_throwFor_16 ?_
    refine cw_iconst 2 d_P_throwFor_17 rfl ?_
    refine ev_icmp_ne (tgt := 32) (by decide) d_P_throwFor_18 (fun c => ?_) (fun c => ?_)
    · rw [if_neg c] at h
      refine ev_iload_n (k0 := 0) rfl d_P_throwFor_32 ?_
      refine cw_iconst 3 d_P_throwFor_33 rfl ?_
      refine ev_icmp_ne (tgt := 48) (by decide) d_P_throwFor_34 (fun c => ?_) (fun c => ?_)
      · rw [if_neg c] at h
        have hP := kE _ (Option.some.inj h).symm
        exact ev_return (st := []) rfl d_P_throwFor_48 (by rw [hP]; exact ⟨rfl, rfl⟩)
      · rw [if_pos c] at h
        cases h
    · rw [if_pos c] at h
      cases h
  · rw [if_pos c] at h
    cases h

/-- ProphecyShop$Prophecy.isOverdue -/
def f_Prophecy_isOverdue (j0 : Nat) (x1 : Int32) (μ : Mem) : Option (Int32) :=
  if (μ 5 j0 7) = 0 then (if x1 ≤ (μ 5 j0 5) then some 0 else (some 1)) else (some 0)
set_option maxRecDepth 100000 in
set_option maxHeartbeats 4000000 in
theorem w_Prophecy_isOverdue {g : GL} {F G : RG} {nx : Nat} (d : Nat) {j0 : Nat} {x1 : Int32} {μ : Mem} (hv0 : vc 5 j0)  {o : Int32} (hG : LM vc 0 535 μ F G) (h : f_Prophecy_isOverdue j0 x1 μ = some o) : Mt g (d + 0) m_Prophecy_isOverdue [.inr (0, off 5 j0), .inl (.int x1)] (G, nx) 0 0 (pRO (rI o) (G, nx)) := by
  unfold f_Prophecy_isOverdue at h
  have kE : ∀ v, o = v → pRO (rI o) (G, nx) = pRO (rI v) (G, nx) := fun v e => by subst e; rfl
  refine Mt.of9 [some (.inr (0, off 5 j0)), some (.inl (.int x1))] (by decide +kernel) rfl rfl rfl rfl ?_
  refine ev_aload_n (k0 := 0) rfl d_Prophecy_isOverdue_0 ?_
  refine cv_get9 (.inl (.int (μ 5 j0 7))) hG hv0 fg_Prophecy_33_5 rfl rfl d_Prophecy_isOverdue_1 ?_
  refine ev_if_ne (tgt := 19) (by decide) d_Prophecy_isOverdue_4 (fun c => ?_) (fun c => ?_)
  · rw [if_neg c] at h
    refine cw_iconst 0 d_Prophecy_isOverdue_19 rfl ?_
    have hP := kE _ (Option.some.inj h).symm
    exact ev_ireturn (st := []) rfl rfl d_Prophecy_isOverdue_20 (by rw [hP]; exact ⟨rfl, rfl⟩)
  · rw [if_pos c] at h
    refine ev_aload_n (k0 := 0) rfl d_Prophecy_isOverdue_7 ?_
    refine cv_get9 (.inl (.int (μ 5 j0 5))) hG hv0 fg_Prophecy_27_5 rfl rfl d_Prophecy_isOverdue_8 ?_
    refine ev_iload_n (k0 := 1) rfl d_Prophecy_isOverdue_11 ?_
    refine ev_icmp_ge (tgt := 19) (by decide) d_Prophecy_isOverdue_12 (fun c => ?_) (fun c => ?_)
    · rw [if_pos c] at h
      refine cw_iconst 0 d_Prophecy_isOverdue_19 rfl ?_
      have hP := kE _ (Option.some.inj h).symm
      exact ev_ireturn (st := []) rfl rfl d_Prophecy_isOverdue_20 (by rw [hP]; exact ⟨rfl, rfl⟩)
    · rw [if_neg c] at h
      refine cw_iconst 1 d_Prophecy_isOverdue_15 rfl ?_
      refine ev_goto (tgt := 20) (by decide) d_Prophecy_isOverdue_16 ?_
      have hP := kE _ (Option.some.inj h).symm
      exact ev_ireturn (st := []) rfl rfl d_Prophecy_isOverdue_20 (by rw [hP]; exact ⟨rfl, rfl⟩)

/-- ProphecyShop$Prophecy.decide -/
def f_Prophecy_decide (j0 : Nat) (x1 : Int32) (x2 : Int32) (μ : Mem) : Option (Mem) :=
  ((if (μ 5 j0 1) = 2 then (some (0)) else (some (1)) : Option (Int32))).bind (fun q1 => ((if x1 = q1 then (some (1)) else (some (2)) : Option (Int32))).bind (fun q2 => nm (st3 μ 5 j0 7 q2) (fun μ3 => nm (st3 μ3 5 j0 8 x2) (fun μ4 => some μ4))))
set_option maxRecDepth 100000 in
set_option maxHeartbeats 4000000 in
theorem w_Prophecy_decide {g : GL} {F G : RG} {nx : Nat} (d : Nat) {j0 : Nat} {x1 : Int32} {x2 : Int32} {μ : Mem} (hv0 : vc 5 j0)  {o : Mem} (hG : LM vc 0 535 μ F G) (h : f_Prophecy_decide j0 x1 x2 μ = some o) : Mt g (d + 0) m_Prophecy_decide [.inr (0, off 5 j0), .inl (.int x1), .inl (.int x2)] (G, nx) 0 0 (pRW vc 0 535 rV o F nx) := by
  unfold f_Prophecy_decide at h
  have kE : ∀ v, o = v → pRW vc 0 535 rV o F nx = pRW vc 0 535 rV v F nx := fun v e => by subst e; rfl
  refine Mt.of9 [some (.inr (0, off 5 j0)), some (.inl (.int x1)), some (.inl (.int x2))] (by decide +kernel) rfl rfl rfl rfl ?_
  refine ev_aload_n (k0 := 0) rfl d_Prophecy_decide_0 ?_
  refine ev_iload_n (k0 := 1) rfl d_Prophecy_decide_1 ?_
  refine ev_aload_n (k0 := 0) rfl d_Prophecy_decide_2 ?_
  refine cv_get9 (.inl (.int (μ 5 j0 1))) hG hv0 fg_Prophecy_15_5 rfl rfl d_Prophecy_decide_3 ?_
  refine cw_iconst 2 d_Prophecy_decide_6 rfl ?_
  obtain ⟨q1, hj, h⟩ := bind_some9 h
  have K_q1 : Ev g (d + 0) m_Prophecy_decide 15 [some (.inr (0, off 5 j0)), none, some (.inl (.int x2))] [.inl (.int q1), .inl (.int x1), .inr (0, off 5 j0)] (G, nx) 0 0 (pRW vc 0 535 rV o F nx) := by
    obtain ⟨q2, hj, h⟩ := bind_some9 h
    have K_q2 : Ev g (d + 0) m_Prophecy_decide 23 [some (.inr (0, off 5 j0)), none, some (.inl (.int x2))] [.inl (.int q2), .inr (0, off 5 j0)] (G, nx) 0 0 (pRW vc 0 535 rV o F nx) := by
      obtain ⟨μ3, e_μ3, h⟩ := nm_some h
      refine cv_put (.inl (.int q2)) q2 hG okC hv0 fl_Prophecy_33_5 rfl rfl okv_int d_Prophecy_decide_23 ?_
      intro G hG; rw [← e_μ3] at hG
      refine ev_aload_n (k0 := 0) rfl d_Prophecy_decide_26 ?_
      refine ev_iload_n (k0 := 2) rfl d_Prophecy_decide_27 ?_
      obtain ⟨μ4, e_μ4, h⟩ := nm_some h
      refine cv_put (.inl (.int x2)) x2 hG okC hv0 fl_Prophecy_36_5 rfl rfl okv_int d_Prophecy_decide_28 ?_
      intro G hG; rw [← e_μ4] at hG
      have hP := kE _ (Option.some.inj h).symm
      exact ev_return (st := []) rfl d_Prophecy_decide_31 (by rw [hP]; exact ⟨rfl, hG, rfl⟩)
    clear h
    have h := hj
    refine ev_icmp_ne (tgt := 22) (by decide) d_Prophecy_decide_15 (fun c => ?_) (fun c => ?_)
    · rw [if_neg c] at h
      refine cw_iconst 2 d_Prophecy_decide_22 rfl ?_
      obtain rfl := Option.some.inj h
      exact K_q2
    · rw [if_pos c] at h
      refine cw_iconst 1 d_Prophecy_decide_18 rfl ?_
      refine ev_goto (tgt := 23) (by decide) d_Prophecy_decide_19 ?_
      obtain rfl := Option.some.inj h
      exact K_q2
  clear h
  have h := hj
  refine ev_icmp_eq (tgt := 14) (by decide) d_Prophecy_decide_7 (fun c => ?_) (fun c => ?_)
  · rw [if_pos c] at h
    refine cw_iconst 0 d_Prophecy_decide_14 rfl ?_
    obtain rfl := Option.some.inj h
    exact Ev.sub (.s (.n (.s LSb.z))) (K_q1)
  · rw [if_neg c] at h
    refine cw_iconst 1 d_Prophecy_decide_10 rfl ?_
    refine ev_goto (tgt := 15) (by decide) d_Prophecy_decide_11 ?_
    obtain rfl := Option.some.inj h
    exact Ev.sub (.s (.n (.s LSb.z))) (K_q1)

/-- ProphecyShop$Shop.decideOverdue -/
def s_Shop_decideOverdue_2 (j0 : Nat) (x1 : Int32) (μ : Mem) : Option ((Int32 × Mem) ⊕ (Mem)) :=
  if (μ 9 j0 5) ≤ x1 then (some (.inr μ)) else (chk (inb x1 24) (((f_Prophecy_isOverdue (24 * j0 + x1.toNatClampNeg) (μ 9 j0 1) μ)).bind (fun r2 => if r2 = 0 then (some (.inl ((x1 + 1, μ)))) else (chk (inb x1 24) (((f_Prophecy_decide (24 * j0 + x1.toNatClampNeg) 0 (μ 9 j0 1) μ)).bind (fun r4 => some (.inl ((x1 + 1, r4)))))))))
def f_Shop_decideOverdue (j0 : Nat) (μ : Mem) : Option (Mem) :=
  (it (fun (s : Int32 × Mem) => s_Shop_decideOverdue_2 j0 s.1 s.2) LIM ((0, μ))).bind (fun q1 => some q1)
set_option maxRecDepth 100000 in
set_option maxHeartbeats 4000000 in
theorem ws_Shop_decideOverdue_2 {g : GL} {F G : RG} {nx mc ms : Nat} {Post : RO → RM → Prop} (d : Nat) {j0 : Nat} {x1 : Int32} {μ : Mem} (hv0 : vc 9 j0)  {o : (Int32 × Mem) ⊕ (Mem)} (hG : LM vc 0 535 μ F G) (h : s_Shop_decideOverdue_2 j0 x1 μ = some o)
    (kC : ∀ s', o = .inl s' → ∀ G, LM vc 0 535 s'.2 F G → Ev g (d + 1) m_Shop_decideOverdue 2 [some (.inr (0, off 9 j0)), some (.inl (.int s'.1))] [] (G, nx) mc ms Post)
    (kX : ∀ r, o = .inr r → ∀ G, LM vc 0 535 r F G → Ev g (d + 1) m_Shop_decideOverdue 46 [none, none] [] (G, nx) mc ms Post)
    : Ev g (d + 1) m_Shop_decideOverdue 2 [some (.inr (0, off 9 j0)), some (.inl (.int x1))] [] (G, nx) mc ms Post := by
  unfold s_Shop_decideOverdue_2 at h
  refine ev_iload_n (k0 := 1) rfl d_Shop_decideOverdue_2 ?_
  refine ev_aload_n (k0 := 0) rfl d_Shop_decideOverdue_3 ?_
  refine cv_get9 (.inl (.int (μ 9 j0 5))) hG hv0 fg_Shop_28_9 rfl rfl d_Shop_decideOverdue_4 ?_
  refine ev_icmp_ge (tgt := 46) (by decide) d_Shop_decideOverdue_7 (fun c => ?_) (fun c => ?_)
  · rw [if_pos c] at h
    exact Ev.sub (.n (.n LSb.z)) (kX _ (Option.some.inj h).symm G hG)
  · rw [if_neg c] at h
    refine ev_aload_n (k0 := 0) rfl d_Shop_decideOverdue_10 ?_
    refine cv_get9 (.inr (0, off 28 j0)) hG hv0 fg_Shop_24_9 rfl rfl d_Shop_decideOverdue_11 ?_
    refine ev_iload_n (k0 := 1) rfl d_Shop_decideOverdue_14 ?_
    obtain ⟨b1, h⟩ := chk_some h
    refine cv_aald (.inr (0, off 5 (24 * j0 + x1.toNatClampNeg))) hG (tv_9_4 hv0) rfl rfl rfl b1 rfl d_Shop_decideOverdue_15 ?_
    refine ev_aload_n (k0 := 0) rfl d_Shop_decideOverdue_16 ?_
    refine cv_get9 (.inl (.int (μ 9 j0 1))) hG hv0 fg_Shop_9_9 rfl rfl d_Shop_decideOverdue_17 ?_
    obtain ⟨r2, hr2, h⟩ := bind_some9 h
    refine Ev.z9 ?_
    refine cv_V (d := d + 0) (mc1 := 0) (ms1 := 0) (mc := mc) (ms := ms) [.inl (.int (μ 9 j0 1))] hG (ta_28 (tv_9_4 hv0) b1) rfl lk_Shop_238 (w_Prophecy_isOverdue (d + 0) (ta_28 (tv_9_4 hv0) b1) hG hr2) rfl rfl d_Shop_decideOverdue_20 (aft_ro ?_)
    refine Ev.at (pc' := 23) rfl (Ev.cong (st' := [.inl (.int r2)]) ?_ rfl rfl)
    refine ev_if_eq (tgt := 40) (by decide) d_Shop_decideOverdue_23 (fun c => ?_) (fun c => ?_)
    · rw [if_pos c] at h
      refine cw_iincN 1 1 [some (.inr (0, off 9 j0)), some (.inl (.int (x1 + 1)))] d_Shop_decideOverdue_40 rfl rfl rfl rfl rfl ?_
      refine ev_goto (tgt := 2) (by decide) d_Shop_decideOverdue_43 ?_
      exact kC _ (Option.some.inj h).symm G hG
    · rw [if_neg c] at h
      refine ev_aload_n (k0 := 0) rfl d_Shop_decideOverdue_26 ?_
      refine cv_get9 (.inr (0, off 28 j0)) hG hv0 fg_Shop_24_9 rfl rfl d_Shop_decideOverdue_27 ?_
      refine ev_iload_n (k0 := 1) rfl d_Shop_decideOverdue_30 ?_
      obtain ⟨b3, h⟩ := chk_some h
      refine cv_aald (.inr (0, off 5 (24 * j0 + x1.toNatClampNeg))) hG (tv_9_4 hv0) rfl rfl rfl b3 rfl d_Shop_decideOverdue_31 ?_
      refine cw_iconst 0 d_Shop_decideOverdue_32 rfl ?_
      refine ev_aload_n (k0 := 0) rfl d_Shop_decideOverdue_33 ?_
      refine cv_get9 (.inl (.int (μ 9 j0 1))) hG hv0 fg_Shop_9_9 rfl rfl d_Shop_decideOverdue_34 ?_
      obtain ⟨r4, hr4, h⟩ := bind_some9 h
      refine Ev.z9 ?_
      refine cv_V (d := d + 0) (mc1 := 0) (ms1 := 0) (mc := mc) (ms := ms) [.inl (.int 0), .inl (.int (μ 9 j0 1))] hG (ta_28 (tv_9_4 hv0) b3) rfl lk_Shop_158 (w_Prophecy_decide (d + 0) (ta_28 (tv_9_4 hv0) b3) hG hr4) rfl rfl d_Shop_decideOverdue_37 (aft_rw (fun G hG => ?_))
      refine Ev.at (pc' := 40) rfl (Ev.cong (st' := []) ?_ rfl rfl)
      refine cw_iincN 1 1 [some (.inr (0, off 9 j0)), some (.inl (.int (x1 + 1)))] d_Shop_decideOverdue_40 rfl rfl rfl rfl rfl ?_
      refine ev_goto (tgt := 2) (by decide) d_Shop_decideOverdue_43 ?_
      exact kC _ (Option.some.inj h).symm G hG
set_option maxRecDepth 100000 in
set_option maxHeartbeats 4000000 in
theorem w_Shop_decideOverdue {g : GL} {F G : RG} {nx : Nat} (d : Nat) {j0 : Nat} {μ : Mem} (hv0 : vc 9 j0)  {o : Mem} (hG : LM vc 0 535 μ F G) (h : f_Shop_decideOverdue j0 μ = some o) : Mt g (d + 1) m_Shop_decideOverdue [.inr (0, off 9 j0)] (G, nx) 0 0 (pRW vc 0 535 rV o F nx) := by
  unfold f_Shop_decideOverdue at h
  have kE : ∀ v, o = v → pRW vc 0 535 rV o F nx = pRW vc 0 535 rV v F nx := fun v e => by subst e; rfl
  refine Mt.of9 [some (.inr (0, off 9 j0)), none] (by decide +kernel) rfl rfl rfl rfl ?_
  refine cw_iconst 0 d_Shop_decideOverdue_0 rfl ?_
  refine cw_istoreN_n 1 0 rfl [some (.inr (0, off 9 j0)), some (.inl (.int 0))] d_Shop_decideOverdue_1 rfl rfl rfl ?_
  obtain ⟨q1, hl, h⟩ := bind_some9 h
  refine it_ev (W := fun (s : Int32 × Mem) => ∀ G, LM vc 0 535 s.2 F G → Ev g (d + 1) m_Shop_decideOverdue 2 [some (.inr (0, off 9 j0)), some (.inl (.int s.1))] [] (G, nx) 0 0 (pRW vc 0 535 rV o F nx)) (X := fun z => z = q1) rfl (fun s9 o9 hs kC9 kX9 => ?_) LIM _ hl G hG
  intro G hG
  refine ws_Shop_decideOverdue_2 d hv0 hG hs kC9 (fun r_ e G hG => ?_)
  · obtain rfl := (kX9 _ e).symm
    have hP := kE _ (Option.some.inj h).symm
    exact ev_return (st := []) rfl d_Shop_decideOverdue_46 (by rw [hP]; exact ⟨rfl, hG, rfl⟩)

/-- ProphecyShop$Owl.fly -/
def f_Owl_fly (j0 : Nat) (μ : Mem) : Option (Int32 × Mem) :=
  if (μ 4 j0 0) = 0 then (some (((-1), μ))) else (nm (st3 μ 4 j0 0 ((μ 4 j0 0) - 1)) (fun μ1 => if (0 : Int32) < (μ1 4 j0 0) then (some (((-1), μ1))) else (if (μ1 4 j0 4) = 0 then (some (((-1), μ1))) else (nm (st3 μ1 4 j0 4 0) (fun μ2 => nm (st3 μ2 4 j0 0 (μ2 4 j0 3)) (fun μ3 => some ((μ3 4 j0 2, μ3))))))))
set_option maxRecDepth 100000 in
set_option maxHeartbeats 4000000 in
theorem w_Owl_fly {g : GL} {F G : RG} {nx : Nat} (d : Nat) {j0 : Nat} {μ : Mem} (hv0 : vc 4 j0)  {o : Int32 × Mem} (hG : LM vc 0 535 μ F G) (h : f_Owl_fly j0 μ = some o) : Mt g (d + 0) m_Owl_fly [.inr (0, off 4 j0)] (G, nx) 0 0 (pRW vc 0 535 (rI o.1) o.2 F nx) := by
  unfold f_Owl_fly at h
  have kE : ∀ v, o = v → pRW vc 0 535 (rI o.1) o.2 F nx = pRW vc 0 535 (rI v.1) v.2 F nx := fun v e => by subst e; rfl
  refine Mt.of9 [some (.inr (0, off 4 j0))] (by decide +kernel) rfl rfl rfl rfl ?_
  refine ev_aload_n (k0 := 0) rfl d_Owl_fly_0 ?_
  refine cv_get9 (.inl (.int (μ 4 j0 0))) hG hv0 fg_Owl_9_4 rfl rfl d_Owl_fly_1 ?_
  refine ev_if_ne (tgt := 9) (by decide) d_Owl_fly_4 (fun c => ?_) (fun c => ?_)
  · rw [if_neg c] at h
    refine ev_aload_n (k0 := 0) rfl d_Owl_fly_9 ?_
    refine ev_dup rfl d_Owl_fly_10 ?_
    refine cv_get9 (.inl (.int (μ 4 j0 0))) hG hv0 fg_Owl_9_4 rfl rfl d_Owl_fly_11 ?_
    refine cw_iconst 1 d_Owl_fly_14 rfl ?_
    refine ev_isub d_Owl_fly_15 ?_
    obtain ⟨μ1, e_μ1, h⟩ := nm_some h
    refine cv_put (.inl (.int ((μ 4 j0 0) - 1))) ((μ 4 j0 0) - 1) hG okC hv0 fl_Owl_9_4 rfl rfl okv_int d_Owl_fly_16 ?_
    intro G hG; rw [← e_μ1] at hG
    refine ev_aload_n (k0 := 0) rfl d_Owl_fly_19 ?_
    refine cv_get9 (.inl (.int (μ1 4 j0 0))) hG hv0 fg_Owl_9_4 rfl rfl d_Owl_fly_20 ?_
    refine ev_if_gt (tgt := 33) (by decide) d_Owl_fly_23 (fun c => ?_) (fun c => ?_)
    · rw [if_pos c] at h
      refine cw_iconst (-1) d_Owl_fly_33 rfl ?_
      have hP := kE _ (Option.some.inj h).symm
      exact ev_ireturn (st := []) rfl rfl d_Owl_fly_34 (by rw [hP]; exact ⟨rfl, hG, rfl⟩)
    · rw [if_neg c] at h
      refine ev_aload_n (k0 := 0) rfl d_Owl_fly_26 ?_
      refine cv_get9 (.inl (.int (μ1 4 j0 4))) hG hv0 fg_Owl_24_4 rfl rfl d_Owl_fly_27 ?_
      refine ev_if_ne (tgt := 35) (by decide) d_Owl_fly_30 (fun c => ?_) (fun c => ?_)
      · rw [if_neg c] at h
        refine ev_aload_n (k0 := 0) rfl d_Owl_fly_35 ?_
        refine cw_iconst 0 d_Owl_fly_36 rfl ?_
        obtain ⟨μ2, e_μ2, h⟩ := nm_some h
        refine cv_put (.inl (.int 0)) 0 hG okC hv0 fl_Owl_24_4 rfl rfl (okv_bool rfl) d_Owl_fly_37 ?_
        intro G hG; rw [← e_μ2] at hG
        refine ev_aload_n (k0 := 0) rfl d_Owl_fly_40 ?_
        refine ev_aload_n (k0 := 0) rfl d_Owl_fly_41 ?_
        refine cv_get9 (.inl (.int (μ2 4 j0 3))) hG hv0 fg_Owl_21_4 rfl rfl d_Owl_fly_42 ?_
        obtain ⟨μ3, e_μ3, h⟩ := nm_some h
        refine cv_put (.inl (.int (μ2 4 j0 3))) (μ2 4 j0 3) hG okC hv0 fl_Owl_9_4 rfl rfl okv_int d_Owl_fly_45 ?_
        intro G hG; rw [← e_μ3] at hG
        refine ev_aload_n (k0 := 0) rfl d_Owl_fly_48 ?_
        refine cv_get9 (.inl (.int (μ3 4 j0 2))) hG hv0 fg_Owl_18_4 rfl rfl d_Owl_fly_49 ?_
        have hP := kE _ (Option.some.inj h).symm
        exact ev_ireturn (st := []) rfl rfl d_Owl_fly_52 (by rw [hP]; exact ⟨rfl, hG, rfl⟩)
      · rw [if_pos c] at h
        refine cw_iconst (-1) d_Owl_fly_33 rfl ?_
        have hP := kE _ (Option.some.inj h).symm
        exact ev_ireturn (st := []) rfl rfl d_Owl_fly_34 (by rw [hP]; exact ⟨rfl, hG, rfl⟩)
  · rw [if_pos c] at h
    refine cw_iconst (-1) d_Owl_fly_7 rfl ?_
    have hP := kE _ (Option.some.inj h).symm
    exact ev_ireturn (st := []) rfl rfl d_Owl_fly_8 (by rw [hP]; exact ⟨rfl, hG, rfl⟩)

/-- ProphecyShop$Owl.handOver -/
def f_Owl_handOver (j0 : Nat) (μ : Mem) : Option (Int32 × Mem) :=
  nm (μ 4 j0 1 : Int32) (fun v1 => nm (st3 μ 4 j0 1 0) (fun μ2 => some ((v1, μ2))))
set_option maxRecDepth 100000 in
set_option maxHeartbeats 4000000 in
theorem w_Owl_handOver {g : GL} {F G : RG} {nx : Nat} (d : Nat) {j0 : Nat} {μ : Mem} (hv0 : vc 4 j0)  {o : Int32 × Mem} (hG : LM vc 0 535 μ F G) (h : f_Owl_handOver j0 μ = some o) : Mt g (d + 0) m_Owl_handOver [.inr (0, off 4 j0)] (G, nx) 0 0 (pRW vc 0 535 (rI o.1) o.2 F nx) := by
  unfold f_Owl_handOver at h
  have kE : ∀ v, o = v → pRW vc 0 535 (rI o.1) o.2 F nx = pRW vc 0 535 (rI v.1) v.2 F nx := fun v e => by subst e; rfl
  refine Mt.of9 [some (.inr (0, off 4 j0)), none] (by decide +kernel) rfl rfl rfl rfl ?_
  refine ev_aload_n (k0 := 0) rfl d_Owl_handOver_0 ?_
  refine cv_get9 (.inl (.int (μ 4 j0 1))) hG hv0 fg_Owl_15_4 rfl rfl d_Owl_handOver_1 ?_
  obtain ⟨v1, e_v1, h⟩ := nm_some h
  refine cw_istoreN_n 1 v1 e_v1 [some (.inr (0, off 4 j0)), some (.inl (.int v1))] d_Owl_handOver_4 rfl rfl rfl ?_
  refine ev_aload_n (k0 := 0) rfl d_Owl_handOver_5 ?_
  refine cw_iconst 0 d_Owl_handOver_6 rfl ?_
  obtain ⟨μ2, e_μ2, h⟩ := nm_some h
  refine cv_put (.inl (.int 0)) 0 hG okC hv0 fl_Owl_15_4 rfl rfl okv_int d_Owl_handOver_7 ?_
  intro G hG; rw [← e_μ2] at hG
  refine ev_iload_n (k0 := 1) rfl d_Owl_handOver_10 ?_
  have hP := kE _ (Option.some.inj h).symm
  exact ev_ireturn (st := []) rfl rfl d_Owl_handOver_11 (by rw [hP]; exact ⟨rfl, hG, rfl⟩)

/-- ProphecyShop$Shop.addCoins -/
def f_Shop_addCoins (j0 : Nat) (x1 : Int32) (x2 : Int32) (μ : Mem) : Option (Mem) :=
  if x1 < 0 then some μ else (if (8 : Int32) ≤ x1 then some μ else (chk (inb x1 8) (chk (inb x1 8) (nm (st3 μ 27 j0 x1.toNatClampNeg ((μ 27 j0 x1.toNatClampNeg) + x2)) (fun μ3 => some μ3)))))
set_option maxRecDepth 100000 in
set_option maxHeartbeats 4000000 in
theorem w_Shop_addCoins {g : GL} {F G : RG} {nx : Nat} (d : Nat) {j0 : Nat} {x1 : Int32} {x2 : Int32} {μ : Mem} (hv0 : vc 9 j0)  {o : Mem} (hG : LM vc 0 535 μ F G) (h : f_Shop_addCoins j0 x1 x2 μ = some o) : Mt g (d + 0) m_Shop_addCoins [.inr (0, off 9 j0), .inl (.int x1), .inl (.int x2)] (G, nx) 0 0 (pRW vc 0 535 rV o F nx) := by
  unfold f_Shop_addCoins at h
  have kE : ∀ v, o = v → pRW vc 0 535 rV o F nx = pRW vc 0 535 rV v F nx := fun v e => by subst e; rfl
  refine Mt.of9 [some (.inr (0, off 9 j0)), some (.inl (.int x1)), some (.inl (.int x2))] (by decide +kernel) rfl rfl rfl rfl ?_
  refine ev_iload_n (k0 := 1) rfl d_Shop_addCoins_0 ?_
  refine ev_if_lt (tgt := 20) (by decide) d_Shop_addCoins_1 (fun c => ?_) (fun c => ?_)
  · rw [if_pos c] at h
    have hP := kE _ (Option.some.inj h).symm
    exact ev_return (st := []) rfl d_Shop_addCoins_20 (by rw [hP]; exact ⟨rfl, hG, rfl⟩)
  · rw [if_neg c] at h
    refine ev_iload_n (k0 := 1) rfl d_Shop_addCoins_4 ?_
    refine cw_bipush 8 d_Shop_addCoins_5 rfl ?_
    refine ev_icmp_ge (tgt := 20) (by decide) d_Shop_addCoins_7 (fun c => ?_) (fun c => ?_)
    · rw [if_pos c] at h
      have hP := kE _ (Option.some.inj h).symm
      exact ev_return (st := []) rfl d_Shop_addCoins_20 (by rw [hP]; exact ⟨rfl, hG, rfl⟩)
    · rw [if_neg c] at h
      refine ev_aload_n (k0 := 0) rfl d_Shop_addCoins_10 ?_
      refine cv_get9 (.inr (0, off 27 j0)) hG hv0 fg_Shop_18_9 rfl rfl d_Shop_addCoins_11 ?_
      refine ev_iload_n (k0 := 1) rfl d_Shop_addCoins_14 ?_
      refine ev_dup2 rfl rfl d_Shop_addCoins_15 ?_
      obtain ⟨b1, h⟩ := chk_some h
      refine cv_iald hG (tv_9_3 hv0) rfl rfl b1 rfl d_Shop_addCoins_16 ?_
      refine ev_iload_n (k0 := 2) rfl d_Shop_addCoins_17 ?_
      refine ev_iadd d_Shop_addCoins_18 ?_
      obtain ⟨b2, h⟩ := chk_some h
      obtain ⟨μ3, e_μ3, h⟩ := nm_some h
      refine cv_iast hG okC (tv_9_3 hv0) rfl rfl b2 rfl d_Shop_addCoins_19 ?_
      intro G hG; rw [← e_μ3] at hG
      have hP := kE _ (Option.some.inj h).symm
      exact ev_return (st := []) rfl d_Shop_addCoins_20 (by rw [hP]; exact ⟨rfl, hG, rfl⟩)

/-- ProphecyShop$Shop.moveOwls -/
def s_Shop_moveOwls_2 (j0 : Nat) (x1 : Int32) (μ : Mem) : Option ((Int32 × Mem) ⊕ (Mem)) :=
  if (5 : Int32) ≤ x1 then (some (.inr μ)) else (chk (inb x1 5) (((f_Owl_fly (5 * j0 + x1.toNatClampNeg) μ)).bind (fun r2 => if r2.1 = ((-1)) then (some (.inl ((x1 + 1, r2.2)))) else (chk (inb x1 5) (((f_Owl_handOver (5 * j0 + x1.toNatClampNeg) r2.2)).bind (fun r4 => ((f_Shop_addCoins j0 r2.1 r4.1 r4.2)).bind (fun r5 => some (.inl ((x1 + 1, r5))))))))))
def f_Shop_moveOwls (j0 : Nat) (μ : Mem) : Option (Mem) :=
  (it (fun (s : Int32 × Mem) => s_Shop_moveOwls_2 j0 s.1 s.2) LIM ((0, μ))).bind (fun q1 => some q1)
set_option maxRecDepth 100000 in
set_option maxHeartbeats 4000000 in
theorem ws_Shop_moveOwls_2 {g : GL} {F G : RG} {nx mc ms : Nat} {Post : RO → RM → Prop} (d : Nat) {j0 : Nat} {x1 : Int32} {μ : Mem} (hv0 : vc 9 j0)  {o : (Int32 × Mem) ⊕ (Mem)} (hG : LM vc 0 535 μ F G) (h : s_Shop_moveOwls_2 j0 x1 μ = some o)
    (kC : ∀ s', o = .inl s' → ∀ G, LM vc 0 535 s'.2 F G → Ev g (d + 1) m_Shop_moveOwls 2 [some (.inr (0, off 9 j0)), some (.inl (.int s'.1)), none] [] (G, nx) mc ms Post)
    (kX : ∀ r, o = .inr r → ∀ G, LM vc 0 535 r F G → Ev g (d + 1) m_Shop_moveOwls 42 [none, none, none] [] (G, nx) mc ms Post)
    : Ev g (d + 1) m_Shop_moveOwls 2 [some (.inr (0, off 9 j0)), some (.inl (.int x1)), none] [] (G, nx) mc ms Post := by
  unfold s_Shop_moveOwls_2 at h
  refine ev_iload_n (k0 := 1) rfl d_Shop_moveOwls_2 ?_
  refine cw_iconst 5 d_Shop_moveOwls_3 rfl ?_
  refine ev_icmp_ge (tgt := 42) (by decide) d_Shop_moveOwls_4 (fun c => ?_) (fun c => ?_)
  · rw [if_pos c] at h
    exact Ev.sub (.n (.n (.n LSb.z))) (kX _ (Option.some.inj h).symm G hG)
  · rw [if_neg c] at h
    refine ev_aload_n (k0 := 0) rfl d_Shop_moveOwls_7 ?_
    refine cv_get9 (.inr (0, off 29 j0)) hG hv0 fg_Shop_33_9 rfl rfl d_Shop_moveOwls_8 ?_
    refine ev_iload_n (k0 := 1) rfl d_Shop_moveOwls_11 ?_
    obtain ⟨b1, h⟩ := chk_some h
    refine cv_aald (.inr (0, off 4 (5 * j0 + x1.toNatClampNeg))) hG (tv_9_6 hv0) rfl rfl rfl b1 rfl d_Shop_moveOwls_12 ?_
    obtain ⟨r2, hr2, h⟩ := bind_some9 h
    refine Ev.z9 ?_
    refine cv_V (d := d + 0) (mc1 := 0) (ms1 := 0) (mc := mc) (ms := ms) [] hG (ta_29 (tv_9_6 hv0) b1) rfl lk_Shop_219 (w_Owl_fly (d + 0) (ta_29 (tv_9_6 hv0) b1) hG hr2) rfl rfl d_Shop_moveOwls_13 (aft_rw (fun G hG => ?_))
    refine Ev.at (pc' := 16) rfl (Ev.cong (st' := [.inl (.int r2.1)]) ?_ rfl rfl)
    refine cw_istoreN_n 2 r2.1 rfl [some (.inr (0, off 9 j0)), some (.inl (.int x1)), some (.inl (.int r2.1))] d_Shop_moveOwls_16 rfl rfl rfl ?_
    refine ev_iload_n (k0 := 2) rfl d_Shop_moveOwls_17 ?_
    refine cw_iconst (-1) d_Shop_moveOwls_18 rfl ?_
    refine ev_icmp_eq (tgt := 36) (by decide) d_Shop_moveOwls_19 (fun c => ?_) (fun c => ?_)
    · rw [if_pos c] at h
      refine cw_iincN 1 1 [some (.inr (0, off 9 j0)), some (.inl (.int (x1 + 1))), some (.inl (.int r2.1))] d_Shop_moveOwls_36 rfl rfl rfl rfl rfl ?_
      refine ev_goto (tgt := 2) (by decide) d_Shop_moveOwls_39 ?_
      exact Ev.sub (.s (.s (.n LSb.z))) (kC _ (Option.some.inj h).symm G hG)
    · rw [if_neg c] at h
      refine ev_aload_n (k0 := 0) rfl d_Shop_moveOwls_22 ?_
      refine ev_iload_n (k0 := 2) rfl d_Shop_moveOwls_23 ?_
      refine ev_aload_n (k0 := 0) rfl d_Shop_moveOwls_24 ?_
      refine cv_get9 (.inr (0, off 29 j0)) hG hv0 fg_Shop_33_9 rfl rfl d_Shop_moveOwls_25 ?_
      refine ev_iload_n (k0 := 1) rfl d_Shop_moveOwls_28 ?_
      obtain ⟨b3, h⟩ := chk_some h
      refine cv_aald (.inr (0, off 4 (5 * j0 + x1.toNatClampNeg))) hG (tv_9_6 hv0) rfl rfl rfl b3 rfl d_Shop_moveOwls_29 ?_
      obtain ⟨r4, hr4, h⟩ := bind_some9 h
      refine Ev.z9 ?_
      refine cv_V (d := d + 0) (mc1 := 0) (ms1 := 0) (mc := mc) (ms := ms) [] hG (ta_29 (tv_9_6 hv0) b3) rfl lk_Shop_222 (w_Owl_handOver (d + 0) (ta_29 (tv_9_6 hv0) b3) hG hr4) rfl rfl d_Shop_moveOwls_30 (aft_rw (fun G hG => ?_))
      refine Ev.at (pc' := 33) rfl (Ev.cong (st' := [.inl (.int r4.1), .inl (.int r2.1), .inr (0, off 9 j0)]) ?_ rfl rfl)
      obtain ⟨r5, hr5, h⟩ := bind_some9 h
      refine Ev.z9 ?_
      refine cv_V (d := d + 0) (mc1 := 0) (ms1 := 0) (mc := mc) (ms := ms) [.inl (.int r2.1), .inl (.int r4.1)] hG hv0 rfl lk_Shop_143 (w_Shop_addCoins (d + 0) hv0 hG hr5) rfl rfl d_Shop_moveOwls_33 (aft_rw (fun G hG => ?_))
      refine Ev.at (pc' := 36) rfl (Ev.cong (st' := []) ?_ rfl rfl)
      refine cw_iincN 1 1 [some (.inr (0, off 9 j0)), some (.inl (.int (x1 + 1))), some (.inl (.int r2.1))] d_Shop_moveOwls_36 rfl rfl rfl rfl rfl ?_
      refine ev_goto (tgt := 2) (by decide) d_Shop_moveOwls_39 ?_
      exact Ev.sub (.s (.s (.n LSb.z))) (kC _ (Option.some.inj h).symm G hG)
set_option maxRecDepth 100000 in
set_option maxHeartbeats 4000000 in
theorem w_Shop_moveOwls {g : GL} {F G : RG} {nx : Nat} (d : Nat) {j0 : Nat} {μ : Mem} (hv0 : vc 9 j0)  {o : Mem} (hG : LM vc 0 535 μ F G) (h : f_Shop_moveOwls j0 μ = some o) : Mt g (d + 1) m_Shop_moveOwls [.inr (0, off 9 j0)] (G, nx) 0 0 (pRW vc 0 535 rV o F nx) := by
  unfold f_Shop_moveOwls at h
  have kE : ∀ v, o = v → pRW vc 0 535 rV o F nx = pRW vc 0 535 rV v F nx := fun v e => by subst e; rfl
  refine Mt.of9 [some (.inr (0, off 9 j0)), none, none] (by decide +kernel) rfl rfl rfl rfl ?_
  refine cw_iconst 0 d_Shop_moveOwls_0 rfl ?_
  refine cw_istoreN_n 1 0 rfl [some (.inr (0, off 9 j0)), some (.inl (.int 0)), none] d_Shop_moveOwls_1 rfl rfl rfl ?_
  obtain ⟨q1, hl, h⟩ := bind_some9 h
  refine it_ev (W := fun (s : Int32 × Mem) => ∀ G, LM vc 0 535 s.2 F G → Ev g (d + 1) m_Shop_moveOwls 2 [some (.inr (0, off 9 j0)), some (.inl (.int s.1)), none] [] (G, nx) 0 0 (pRW vc 0 535 rV o F nx)) (X := fun z => z = q1) rfl (fun s9 o9 hs kC9 kX9 => ?_) LIM _ hl G hG
  intro G hG
  refine ws_Shop_moveOwls_2 d hv0 hG hs kC9 (fun r_ e G hG => ?_)
  · obtain rfl := (kX9 _ e).symm
    have hP := kE _ (Option.some.inj h).symm
    exact ev_return (st := []) rfl d_Shop_moveOwls_42 (by rw [hP]; exact ⟨rfl, hG, rfl⟩)

/-- ProphecyShop$Shop.requestAt -/
def f_Shop_requestAt (j0 : Nat) (x1 : Int32) (μ : Mem) : Option (Int32) :=
  if x1 < 0 then (some ((-1))) else (if (μ 9 j0 8) ≤ x1 then (some ((-1))) else (if (24 : Int32) ≤ x1 then (some ((-1))) else (chk (inb x1 24) (some (μ 30 j0 x1.toNatClampNeg)))))
set_option maxRecDepth 100000 in
set_option maxHeartbeats 4000000 in
theorem w_Shop_requestAt {g : GL} {F G : RG} {nx : Nat} (d : Nat) {j0 : Nat} {x1 : Int32} {μ : Mem} (hv0 : vc 9 j0)  {o : Int32} (hG : LM vc 0 535 μ F G) (h : f_Shop_requestAt j0 x1 μ = some o) : Mt g (d + 0) m_Shop_requestAt [.inr (0, off 9 j0), .inl (.int x1)] (G, nx) 0 0 (pRO (rI o) (G, nx)) := by
  unfold f_Shop_requestAt at h
  have kE : ∀ v, o = v → pRO (rI o) (G, nx) = pRO (rI v) (G, nx) := fun v e => by subst e; rfl
  refine Mt.of9 [some (.inr (0, off 9 j0)), some (.inl (.int x1))] (by decide +kernel) rfl rfl rfl rfl ?_
  refine ev_iload_n (k0 := 1) rfl d_Shop_requestAt_0 ?_
  refine ev_if_lt (tgt := 27) (by decide) d_Shop_requestAt_1 (fun c => ?_) (fun c => ?_)
  · rw [if_pos c] at h
    refine cw_iconst (-1) d_Shop_requestAt_27 rfl ?_
    have hP := kE _ (Option.some.inj h).symm
    exact ev_ireturn (st := []) rfl rfl d_Shop_requestAt_28 (by rw [hP]; exact ⟨rfl, rfl⟩)
  · rw [if_neg c] at h
    refine ev_iload_n (k0 := 1) rfl d_Shop_requestAt_4 ?_
    refine ev_aload_n (k0 := 0) rfl d_Shop_requestAt_5 ?_
    refine cv_get9 (.inl (.int (μ 9 j0 8))) hG hv0 fg_Shop_40_9 rfl rfl d_Shop_requestAt_6 ?_
    refine ev_icmp_ge (tgt := 27) (by decide) d_Shop_requestAt_9 (fun c => ?_) (fun c => ?_)
    · rw [if_pos c] at h
      refine cw_iconst (-1) d_Shop_requestAt_27 rfl ?_
      have hP := kE _ (Option.some.inj h).symm
      exact ev_ireturn (st := []) rfl rfl d_Shop_requestAt_28 (by rw [hP]; exact ⟨rfl, rfl⟩)
    · rw [if_neg c] at h
      refine ev_iload_n (k0 := 1) rfl d_Shop_requestAt_12 ?_
      refine cw_bipush 24 d_Shop_requestAt_13 rfl ?_
      refine ev_icmp_ge (tgt := 27) (by decide) d_Shop_requestAt_15 (fun c => ?_) (fun c => ?_)
      · rw [if_pos c] at h
        refine cw_iconst (-1) d_Shop_requestAt_27 rfl ?_
        have hP := kE _ (Option.some.inj h).symm
        exact ev_ireturn (st := []) rfl rfl d_Shop_requestAt_28 (by rw [hP]; exact ⟨rfl, rfl⟩)
      · rw [if_neg c] at h
        refine ev_aload_n (k0 := 0) rfl d_Shop_requestAt_18 ?_
        refine cv_get9 (.inr (0, off 30 j0)) hG hv0 fg_Shop_37_9 rfl rfl d_Shop_requestAt_19 ?_
        refine ev_iload_n (k0 := 1) rfl d_Shop_requestAt_22 ?_
        obtain ⟨b1, h⟩ := chk_some h
        refine cv_iald hG (tv_9_7 hv0) rfl rfl b1 rfl d_Shop_requestAt_23 ?_
        refine ev_goto (tgt := 28) (by decide) d_Shop_requestAt_24 ?_
        have hP := kE _ (Option.some.inj h).symm
        exact ev_ireturn (st := []) rfl rfl d_Shop_requestAt_28 (by rw [hP]; exact ⟨rfl, rfl⟩)

/-- ProphecyShop$Shop.hasSold -/
def f_Shop_hasSold (j0 : Nat) (x1 : Int32) (μ : Mem) : Option (Int32) :=
  if x1 < 0 then some 0 else (if (μ 9 j0 5) ≤ x1 then some 0 else (if (24 : Int32) ≤ x1 then some 0 else (some 1)))
set_option maxRecDepth 100000 in
set_option maxHeartbeats 4000000 in
theorem w_Shop_hasSold {g : GL} {F G : RG} {nx : Nat} (d : Nat) {j0 : Nat} {x1 : Int32} {μ : Mem} (hv0 : vc 9 j0)  {o : Int32} (hG : LM vc 0 535 μ F G) (h : f_Shop_hasSold j0 x1 μ = some o) : Mt g (d + 0) m_Shop_hasSold [.inr (0, off 9 j0), .inl (.int x1)] (G, nx) 0 0 (pRO (rI o) (G, nx)) := by
  unfold f_Shop_hasSold at h
  have kE : ∀ v, o = v → pRO (rI o) (G, nx) = pRO (rI v) (G, nx) := fun v e => by subst e; rfl
  refine Mt.of9 [some (.inr (0, off 9 j0)), some (.inl (.int x1))] (by decide +kernel) rfl rfl rfl rfl ?_
  refine ev_iload_n (k0 := 1) rfl d_Shop_hasSold_0 ?_
  refine ev_if_lt (tgt := 22) (by decide) d_Shop_hasSold_1 (fun c => ?_) (fun c => ?_)
  · rw [if_pos c] at h
    refine cw_iconst 0 d_Shop_hasSold_22 rfl ?_
    have hP := kE _ (Option.some.inj h).symm
    exact ev_ireturn (st := []) rfl rfl d_Shop_hasSold_23 (by rw [hP]; exact ⟨rfl, rfl⟩)
  · rw [if_neg c] at h
    refine ev_iload_n (k0 := 1) rfl d_Shop_hasSold_4 ?_
    refine ev_aload_n (k0 := 0) rfl d_Shop_hasSold_5 ?_
    refine cv_get9 (.inl (.int (μ 9 j0 5))) hG hv0 fg_Shop_28_9 rfl rfl d_Shop_hasSold_6 ?_
    refine ev_icmp_ge (tgt := 22) (by decide) d_Shop_hasSold_9 (fun c => ?_) (fun c => ?_)
    · rw [if_pos c] at h
      refine cw_iconst 0 d_Shop_hasSold_22 rfl ?_
      have hP := kE _ (Option.some.inj h).symm
      exact ev_ireturn (st := []) rfl rfl d_Shop_hasSold_23 (by rw [hP]; exact ⟨rfl, rfl⟩)
    · rw [if_neg c] at h
      refine ev_iload_n (k0 := 1) rfl d_Shop_hasSold_12 ?_
      refine cw_bipush 24 d_Shop_hasSold_13 rfl ?_
      refine ev_icmp_ge (tgt := 22) (by decide) d_Shop_hasSold_15 (fun c => ?_) (fun c => ?_)
      · rw [if_pos c] at h
        refine cw_iconst 0 d_Shop_hasSold_22 rfl ?_
        have hP := kE _ (Option.some.inj h).symm
        exact ev_ireturn (st := []) rfl rfl d_Shop_hasSold_23 (by rw [hP]; exact ⟨rfl, rfl⟩)
      · rw [if_neg c] at h
        refine cw_iconst 1 d_Shop_hasSold_18 rfl ?_
        refine ev_goto (tgt := 23) (by decide) d_Shop_hasSold_19 ?_
        have hP := kE _ (Option.some.inj h).symm
        exact ev_ireturn (st := []) rfl rfl d_Shop_hasSold_23 (by rw [hP]; exact ⟨rfl, rfl⟩)

/-- ProphecyShop$Shop.prophecyWith -/
def f_Shop_prophecyWith (j0 : Nat) (x1 : Int32) (μ : Mem) : Option (Nat) :=
  ((f_Shop_hasSold j0 x1 μ)).bind (fun r1 => if r1 = 0 then (chk (inb 0 24) (some (24 * j0 + ((0 : Int32).toNatClampNeg)))) else (chk (inb x1 24) (some (24 * j0 + x1.toNatClampNeg))))
set_option maxRecDepth 100000 in
set_option maxHeartbeats 4000000 in
theorem w_Shop_prophecyWith {g : GL} {F G : RG} {nx : Nat} (d : Nat) {j0 : Nat} {x1 : Int32} {μ : Mem} (hv0 : vc 9 j0)  {o : Nat} (hG : LM vc 0 535 μ F G) (h : f_Shop_prophecyWith j0 x1 μ = some o) : Mt g (d + 1) m_Shop_prophecyWith [.inr (0, off 9 j0), .inl (.int x1)] (G, nx) 0 0 (pRO ((rR 5) o) (G, nx)) := by
  unfold f_Shop_prophecyWith at h
  have kE : ∀ v, o = v → pRO ((rR 5) o) (G, nx) = pRO ((rR 5) v) (G, nx) := fun v e => by subst e; rfl
  refine Mt.of9 [some (.inr (0, off 9 j0)), some (.inl (.int x1))] (by decide +kernel) rfl rfl rfl rfl ?_
  refine ev_aload_n (k0 := 0) rfl d_Shop_prophecyWith_0 ?_
  refine cv_get9 (.inr (0, off 28 j0)) hG hv0 fg_Shop_24_9 rfl rfl d_Shop_prophecyWith_1 ?_
  refine ev_aload_n (k0 := 0) rfl d_Shop_prophecyWith_4 ?_
  refine ev_iload_n (k0 := 1) rfl d_Shop_prophecyWith_5 ?_
  obtain ⟨r1, hr1, h⟩ := bind_some9 h
  refine cv_V (d := d + 0) (mc1 := 0) (ms1 := 0) (mc := 0) (ms := 0) [.inl (.int x1)] hG hv0 rfl lk_Shop_90 (w_Shop_hasSold (d + 0) hv0 hG hr1) rfl rfl d_Shop_prophecyWith_6 (aft_ro ?_)
  refine Ev.at (pc' := 9) rfl (Ev.cong (st' := [.inl (.int r1), .inr (0, off 28 j0)]) ?_ rfl rfl)
  refine ev_if_eq (tgt := 16) (by decide) d_Shop_prophecyWith_9 (fun c => ?_) (fun c => ?_)
  · rw [if_pos c] at h
    refine cw_iconst 0 d_Shop_prophecyWith_16 rfl ?_
    obtain ⟨b2, h⟩ := chk_some h
    refine cv_aald (.inr (0, off 5 (24 * j0 + ((0 : Int32).toNatClampNeg)))) hG (tv_9_4 hv0) rfl rfl rfl b2 rfl d_Shop_prophecyWith_17 ?_
    have hP := kE _ (Option.some.inj h).symm
    exact ev_areturn (st := []) rfl (Or.inl ⟨_, rfl⟩) d_Shop_prophecyWith_18 (by rw [hP]; exact ⟨rfl, rfl⟩)
  · rw [if_neg c] at h
    refine ev_iload_n (k0 := 1) rfl d_Shop_prophecyWith_12 ?_
    refine ev_goto (tgt := 17) (by decide) d_Shop_prophecyWith_13 ?_
    obtain ⟨b3, h⟩ := chk_some h
    refine cv_aald (.inr (0, off 5 (24 * j0 + x1.toNatClampNeg))) hG (tv_9_4 hv0) rfl rfl rfl b3 rfl d_Shop_prophecyWith_17 ?_
    have hP := kE _ (Option.some.inj h).symm
    exact ev_areturn (st := []) rfl (Or.inl ⟨_, rfl⟩) d_Shop_prophecyWith_18 (by rw [hP]; exact ⟨rfl, rfl⟩)

/-- ProphecyShop$Shop.refundFor -/
def f_Shop_refundFor (j0 : Nat) (j1 : Nat) (μ : Mem) : Option (Int32) :=
  ((if (μ 5 j1 1) = 1 then (chk (decide ((μ 9 j0 0).toNatClampNeg < 2)) (some (μ 7 ((μ 9 j0 0).toNatClampNeg) 4))) else (chk (decide ((μ 9 j0 0).toNatClampNeg < 2)) (some (μ 7 ((μ 9 j0 0).toNatClampNeg) 3))) : Option (Int32))).bind (fun q1 => some (((μ 5 j1 6) * q1) / 100))
set_option maxRecDepth 100000 in
set_option maxHeartbeats 4000000 in
theorem w_Shop_refundFor {g : GL} {F G : RG} {nx : Nat} (d : Nat) {j0 : Nat} {j1 : Nat} {μ : Mem} (hv0 : vc 9 j0) (hv1 : vc 5 j1)  {o : Int32} (hG : LM vc 0 535 μ F G) (h : f_Shop_refundFor j0 j1 μ = some o) : Mt g (d + 0) m_Shop_refundFor [.inr (0, off 9 j0), .inr (0, off 5 j1)] (G, nx) 0 0 (pRO (rI o) (G, nx)) := by
  unfold f_Shop_refundFor at h
  have kE : ∀ v, o = v → pRO (rI o) (G, nx) = pRO (rI v) (G, nx) := fun v e => by subst e; rfl
  refine Mt.of9 [some (.inr (0, off 9 j0)), some (.inr (0, off 5 j1)), none] (by decide +kernel) rfl rfl rfl rfl ?_
  refine ev_aload_n (k0 := 1) rfl d_Shop_refundFor_0 ?_
  refine cv_get9 (.inl (.int (μ 5 j1 1))) hG hv1 fg_Shop_119_5 rfl rfl d_Shop_refundFor_1 ?_
  refine cw_iconst 1 d_Shop_refundFor_4 rfl ?_
  obtain ⟨q1, hj, h⟩ := bind_some9 h
  have K_q1 : Ev g (d + 0) m_Shop_refundFor 25 [none, some (.inr (0, off 5 j1)), none] [.inl (.int q1)] (G, nx) 0 0 (pRO (rI o) (G, nx)) := by
    refine cw_istoreN_n 2 q1 rfl [none, some (.inr (0, off 5 j1)), some (.inl (.int q1))] d_Shop_refundFor_25 rfl rfl rfl ?_
    refine ev_aload_n (k0 := 1) rfl d_Shop_refundFor_26 ?_
    refine cv_get9 (.inl (.int (μ 5 j1 6))) hG hv1 fg_Shop_134_5 rfl rfl d_Shop_refundFor_27 ?_
    refine ev_iload_n (k0 := 2) rfl d_Shop_refundFor_30 ?_
    refine ev_imul d_Shop_refundFor_31 ?_
    refine cw_bipush 100 d_Shop_refundFor_32 rfl ?_
    refine ev_idiv (by decide) d_Shop_refundFor_34 ?_
    have hP := kE _ (Option.some.inj h).symm
    exact ev_ireturn (st := []) rfl rfl d_Shop_refundFor_35 (by rw [hP]; exact ⟨rfl, rfl⟩)
  clear h
  have h := hj
  refine ev_icmp_ne (tgt := 18) (by decide) d_Shop_refundFor_5 (fun c => ?_) (fun c => ?_)
  · rw [if_neg c] at h
    refine ev_aload_n (k0 := 0) rfl d_Shop_refundFor_18 ?_
    obtain ⟨b2, h⟩ := chk_some h
    refine cv_get9 (.inr (0, off 7 ((μ 9 j0 0).toNatClampNeg))) hG hv0 fg_Shop_61_9 rfl rfl d_Shop_refundFor_19 ?_
    refine cv_get9 (.inl (.int (μ 7 ((μ 9 j0 0).toNatClampNeg) 3))) hG (show vc 7 _ from dlt9 b2) fg_Shop_165_7 rfl rfl d_Shop_refundFor_22 ?_
    obtain rfl := Option.some.inj h
    exact Ev.sub (.n (.s (.n LSb.z))) (K_q1)
  · rw [if_pos c] at h
    refine ev_aload_n (k0 := 0) rfl d_Shop_refundFor_8 ?_
    obtain ⟨b3, h⟩ := chk_some h
    refine cv_get9 (.inr (0, off 7 ((μ 9 j0 0).toNatClampNeg))) hG hv0 fg_Shop_61_9 rfl rfl d_Shop_refundFor_9 ?_
    refine cv_get9 (.inl (.int (μ 7 ((μ 9 j0 0).toNatClampNeg) 4))) hG (show vc 7 _ from dlt9 b3) fg_Shop_162_7 rfl rfl d_Shop_refundFor_12 ?_
    refine ev_goto (tgt := 25) (by decide) d_Shop_refundFor_15 ?_
    obtain rfl := Option.some.inj h
    exact Ev.sub (.n (.s (.n LSb.z))) (K_q1)

/-- ProphecyShop$Shop.answerTo -/
def f_Shop_answerTo (j0 : Nat) (j1 : Nat) (μ : Mem) : Option (Int32) :=
  if (μ 5 j1 7) = 0 then some 2 else (if (μ 5 j1 7) = 1 then some 3 else (if (μ 5 j1 7) = 3 then some 4 else (chk (decide ((μ 9 j0 0).toNatClampNeg < 2)) (if ((μ 9 j0 1) - (μ 5 j1 8)) ≤ (μ 7 ((μ 9 j0 0).toNatClampNeg) 2) then (((f_Shop_refundFor j0 j1 μ)).bind (fun r2 => if r2 ≤ (μ 9 j0 2) then some 1 else (some 6))) else (some 5)))))
set_option maxRecDepth 100000 in
set_option maxHeartbeats 4000000 in
theorem w_Shop_answerTo {g : GL} {F G : RG} {nx : Nat} (d : Nat) {j0 : Nat} {j1 : Nat} {μ : Mem} (hv0 : vc 9 j0) (hv1 : vc 5 j1)  {o : Int32} (hG : LM vc 0 535 μ F G) (h : f_Shop_answerTo j0 j1 μ = some o) : Mt g (d + 1) m_Shop_answerTo [.inr (0, off 9 j0), .inr (0, off 5 j1)] (G, nx) 0 0 (pRO (rI o) (G, nx)) := by
  unfold f_Shop_answerTo at h
  have kE : ∀ v, o = v → pRO (rI o) (G, nx) = pRO (rI v) (G, nx) := fun v e => by subst e; rfl
  refine Mt.of9 [some (.inr (0, off 9 j0)), some (.inr (0, off 5 j1))] (by decide +kernel) rfl rfl rfl rfl ?_
  refine ev_aload_n (k0 := 1) rfl d_Shop_answerTo_0 ?_
  refine cv_get9 (.inl (.int (μ 5 j1 7))) hG hv1 fg_Shop_137_5 rfl rfl d_Shop_answerTo_1 ?_
  refine ev_if_ne (tgt := 9) (by decide) d_Shop_answerTo_4 (fun c => ?_) (fun c => ?_)
  · rw [if_neg c] at h
    refine ev_aload_n (k0 := 1) rfl d_Shop_answerTo_9 ?_
    refine cv_get9 (.inl (.int (μ 5 j1 7))) hG hv1 fg_Shop_137_5 rfl rfl d_Shop_answerTo_10 ?_
    refine cw_iconst 1 d_Shop_answerTo_13 rfl ?_
    refine ev_icmp_ne (tgt := 19) (by decide) d_Shop_answerTo_14 (fun c => ?_) (fun c => ?_)
    · rw [if_neg c] at h
      refine ev_aload_n (k0 := 1) rfl d_Shop_answerTo_19 ?_
      refine cv_get9 (.inl (.int (μ 5 j1 7))) hG hv1 fg_Shop_137_5 rfl rfl d_Shop_answerTo_20 ?_
      refine cw_iconst 3 d_Shop_answerTo_23 rfl ?_
      refine ev_icmp_ne (tgt := 29) (by decide) d_Shop_answerTo_24 (fun c => ?_) (fun c => ?_)
      · rw [if_neg c] at h
        refine ev_aload_n (k0 := 0) rfl d_Shop_answerTo_29 ?_
        refine cv_get9 (.inl (.int (μ 9 j0 1))) hG hv0 fg_Shop_9_9 rfl rfl d_Shop_answerTo_30 ?_
        refine ev_aload_n (k0 := 1) rfl d_Shop_answerTo_33 ?_
        refine cv_get9 (.inl (.int (μ 5 j1 8))) hG hv1 fg_Shop_168_5 rfl rfl d_Shop_answerTo_34 ?_
        refine ev_isub d_Shop_answerTo_37 ?_
        refine ev_aload_n (k0 := 0) rfl d_Shop_answerTo_38 ?_
        obtain ⟨b1, h⟩ := chk_some h
        refine cv_get9 (.inr (0, off 7 ((μ 9 j0 0).toNatClampNeg))) hG hv0 fg_Shop_61_9 rfl rfl d_Shop_answerTo_39 ?_
        refine cv_get9 (.inl (.int (μ 7 ((μ 9 j0 0).toNatClampNeg) 2))) hG (show vc 7 _ from dlt9 b1) fg_Shop_171_7 rfl rfl d_Shop_answerTo_42 ?_
        refine ev_icmp_le (tgt := 50) (by decide) d_Shop_answerTo_45 (fun c => ?_) (fun c => ?_)
        · rw [if_pos c] at h
          refine ev_aload_n (k0 := 0) rfl d_Shop_answerTo_50 ?_
          refine cv_get9 (.inl (.int (μ 9 j0 2))) hG hv0 fg_Shop_15_9 rfl rfl d_Shop_answerTo_51 ?_
          refine ev_aload_n (k0 := 0) rfl d_Shop_answerTo_54 ?_
          refine ev_aload_n (k0 := 1) rfl d_Shop_answerTo_55 ?_
          obtain ⟨r2, hr2, h⟩ := bind_some9 h
          refine cv_V (d := d + 0) (mc1 := 0) (ms1 := 0) (mc := 0) (ms := 0) [.inr (0, off 5 j1)] hG hv0 rfl lk_Shop_174 (w_Shop_refundFor (d + 0) hv0 hv1 hG hr2) rfl rfl d_Shop_answerTo_56 (aft_ro ?_)
          refine Ev.at (pc' := 59) rfl (Ev.cong (st' := [.inl (.int r2), .inl (.int (μ 9 j0 2))]) ?_ rfl rfl)
          refine ev_icmp_ge (tgt := 67) (by decide) d_Shop_answerTo_59 (fun c => ?_) (fun c => ?_)
          · rw [if_pos c] at h
            refine cw_iconst 1 d_Shop_answerTo_67 rfl ?_
            have hP := kE _ (Option.some.inj h).symm
            exact ev_ireturn (st := []) rfl rfl d_Shop_answerTo_68 (by rw [hP]; exact ⟨rfl, rfl⟩)
          · rw [if_neg c] at h
            refine cw_bipush 6 d_Shop_answerTo_62 rfl ?_
            refine ev_goto (tgt := 68) (by decide) d_Shop_answerTo_64 ?_
            have hP := kE _ (Option.some.inj h).symm
            exact ev_ireturn (st := []) rfl rfl d_Shop_answerTo_68 (by rw [hP]; exact ⟨rfl, rfl⟩)
        · rw [if_neg c] at h
          refine cw_iconst 5 d_Shop_answerTo_48 rfl ?_
          have hP := kE _ (Option.some.inj h).symm
          exact ev_ireturn (st := []) rfl rfl d_Shop_answerTo_49 (by rw [hP]; exact ⟨rfl, rfl⟩)
      · rw [if_pos c] at h
        refine cw_iconst 4 d_Shop_answerTo_27 rfl ?_
        have hP := kE _ (Option.some.inj h).symm
        exact ev_ireturn (st := []) rfl rfl d_Shop_answerTo_28 (by rw [hP]; exact ⟨rfl, rfl⟩)
    · rw [if_pos c] at h
      refine cw_iconst 3 d_Shop_answerTo_17 rfl ?_
      have hP := kE _ (Option.some.inj h).symm
      exact ev_ireturn (st := []) rfl rfl d_Shop_answerTo_18 (by rw [hP]; exact ⟨rfl, rfl⟩)
  · rw [if_pos c] at h
    refine cw_iconst 2 d_Shop_answerTo_7 rfl ?_
    have hP := kE _ (Option.some.inj h).symm
    exact ev_ireturn (st := []) rfl rfl d_Shop_answerTo_8 (by rw [hP]; exact ⟨rfl, rfl⟩)

/-- ProphecyShop$Shop.owlWith -/
def f_Shop_owlWith (j0 : Nat) (x1 : Int32) (μ : Mem) : Option (Nat) :=
  if x1 < 0 then (chk (inb 0 5) (some (5 * j0 + ((0 : Int32).toNatClampNeg)))) else (if (5 : Int32) ≤ x1 then (chk (inb 0 5) (some (5 * j0 + ((0 : Int32).toNatClampNeg)))) else (chk (inb x1 5) (some (5 * j0 + x1.toNatClampNeg))))
set_option maxRecDepth 100000 in
set_option maxHeartbeats 4000000 in
theorem w_Shop_owlWith {g : GL} {F G : RG} {nx : Nat} (d : Nat) {j0 : Nat} {x1 : Int32} {μ : Mem} (hv0 : vc 9 j0)  {o : Nat} (hG : LM vc 0 535 μ F G) (h : f_Shop_owlWith j0 x1 μ = some o) : Mt g (d + 0) m_Shop_owlWith [.inr (0, off 9 j0), .inl (.int x1)] (G, nx) 0 0 (pRO ((rR 4) o) (G, nx)) := by
  unfold f_Shop_owlWith at h
  have kE : ∀ v, o = v → pRO ((rR 4) o) (G, nx) = pRO ((rR 4) v) (G, nx) := fun v e => by subst e; rfl
  refine Mt.of9 [some (.inr (0, off 9 j0)), some (.inl (.int x1))] (by decide +kernel) rfl rfl rfl rfl ?_
  refine ev_aload_n (k0 := 0) rfl d_Shop_owlWith_0 ?_
  refine cv_get9 (.inr (0, off 29 j0)) hG hv0 fg_Shop_33_9 rfl rfl d_Shop_owlWith_1 ?_
  refine ev_iload_n (k0 := 1) rfl d_Shop_owlWith_4 ?_
  refine ev_if_lt (tgt := 17) (by decide) d_Shop_owlWith_5 (fun c => ?_) (fun c => ?_)
  · rw [if_pos c] at h
    refine cw_iconst 0 d_Shop_owlWith_17 rfl ?_
    obtain ⟨b1, h⟩ := chk_some h
    refine cv_aald (.inr (0, off 4 (5 * j0 + ((0 : Int32).toNatClampNeg)))) hG (tv_9_6 hv0) rfl rfl rfl b1 rfl d_Shop_owlWith_18 ?_
    have hP := kE _ (Option.some.inj h).symm
    exact ev_areturn (st := []) rfl (Or.inl ⟨_, rfl⟩) d_Shop_owlWith_19 (by rw [hP]; exact ⟨rfl, rfl⟩)
  · rw [if_neg c] at h
    refine ev_iload_n (k0 := 1) rfl d_Shop_owlWith_8 ?_
    refine cw_iconst 5 d_Shop_owlWith_9 rfl ?_
    refine ev_icmp_ge (tgt := 17) (by decide) d_Shop_owlWith_10 (fun c => ?_) (fun c => ?_)
    · rw [if_pos c] at h
      refine cw_iconst 0 d_Shop_owlWith_17 rfl ?_
      obtain ⟨b2, h⟩ := chk_some h
      refine cv_aald (.inr (0, off 4 (5 * j0 + ((0 : Int32).toNatClampNeg)))) hG (tv_9_6 hv0) rfl rfl rfl b2 rfl d_Shop_owlWith_18 ?_
      have hP := kE _ (Option.some.inj h).symm
      exact ev_areturn (st := []) rfl (Or.inl ⟨_, rfl⟩) d_Shop_owlWith_19 (by rw [hP]; exact ⟨rfl, rfl⟩)
    · rw [if_neg c] at h
      refine ev_iload_n (k0 := 1) rfl d_Shop_owlWith_13 ?_
      refine ev_goto (tgt := 18) (by decide) d_Shop_owlWith_14 ?_
      obtain ⟨b3, h⟩ := chk_some h
      refine cv_aald (.inr (0, off 4 (5 * j0 + x1.toNatClampNeg))) hG (tv_9_6 hv0) rfl rfl rfl b3 rfl d_Shop_owlWith_18 ?_
      have hP := kE _ (Option.some.inj h).symm
      exact ev_areturn (st := []) rfl (Or.inl ⟨_, rfl⟩) d_Shop_owlWith_19 (by rw [hP]; exact ⟨rfl, rfl⟩)

/-- ProphecyShop$Shop.firstIdleOwl -/
def s_Shop_firstIdleOwl_2 (j0 : Nat) (x1 : Int32) (μ : Mem) : Option ((Int32) ⊕ ((Unit) ⊕ (Int32))) :=
  chk (decide ((μ 9 j0 0).toNatClampNeg < 2)) (if (μ 7 ((μ 9 j0 0).toNatClampNeg) 11) ≤ x1 then (some (.inr (.inl (())))) else (((f_Shop_owlWith j0 x1 μ)).bind (fun r2 => chk (decide (r2 < 60)) (if (μ 4 r2 0) = 0 then (some (.inr (.inr x1))) else (some (.inl (x1 + 1)))))))
def f_Shop_firstIdleOwl (j0 : Nat) (μ : Mem) : Option (Int32) :=
  (it (fun (s : Int32) => s_Shop_firstIdleOwl_2 j0 s μ) LIM 0).bind (fun q1 => els q1 (fun r2 => some ((-1))) (fun v => some v))
set_option maxRecDepth 100000 in
set_option maxHeartbeats 4000000 in
theorem ws_Shop_firstIdleOwl_2 {g : GL} {F G : RG} {nx mc ms : Nat} {Post : RO → RM → Prop} (d : Nat) {j0 : Nat} {x1 : Int32} {μ : Mem} (hv0 : vc 9 j0)  {o : (Int32) ⊕ ((Unit) ⊕ (Int32))} (hG : LM vc 0 535 μ F G) (h : s_Shop_firstIdleOwl_2 j0 x1 μ = some o)
    (kC : ∀ s', o = .inl s' → Ev g (d + 1) m_Shop_firstIdleOwl 2 [some (.inr (0, off 9 j0)), some (.inl (.int s'))] [] (G, nx) mc ms Post)
    (kX : ∀ r, o = .inr (.inl r) → Ev g (d + 1) m_Shop_firstIdleOwl 32 [none, none] [] (G, nx) mc ms Post)
    (kE : ∀ v, o = .inr (.inr v) → Post = pRO (rI v) (G, nx)) : Ev g (d + 1) m_Shop_firstIdleOwl 2 [some (.inr (0, off 9 j0)), some (.inl (.int x1))] [] (G, nx) mc ms Post := by
  unfold s_Shop_firstIdleOwl_2 at h
  refine ev_iload_n (k0 := 1) rfl d_Shop_firstIdleOwl_2 ?_
  refine ev_aload_n (k0 := 0) rfl d_Shop_firstIdleOwl_3 ?_
  obtain ⟨b1, h⟩ := chk_some h
  refine cv_get9 (.inr (0, off 7 ((μ 9 j0 0).toNatClampNeg))) hG hv0 fg_Shop_61_9 rfl rfl d_Shop_firstIdleOwl_4 ?_
  refine cv_get9 (.inl (.int (μ 7 ((μ 9 j0 0).toNatClampNeg) 11))) hG (show vc 7 _ from dlt9 b1) fg_Shop_213_7 rfl rfl d_Shop_firstIdleOwl_7 ?_
  refine ev_icmp_ge (tgt := 32) (by decide) d_Shop_firstIdleOwl_10 (fun c => ?_) (fun c => ?_)
  · rw [if_pos c] at h
    exact Ev.sub (.n (.n LSb.z)) (kX _ (Option.some.inj h).symm)
  · rw [if_neg c] at h
    refine ev_aload_n (k0 := 0) rfl d_Shop_firstIdleOwl_13 ?_
    refine ev_iload_n (k0 := 1) rfl d_Shop_firstIdleOwl_14 ?_
    obtain ⟨r2, hr2, h⟩ := bind_some9 h
    refine Ev.z9 ?_
    refine cv_V (d := d + 0) (mc1 := 0) (ms1 := 0) (mc := mc) (ms := ms) [.inl (.int x1)] hG hv0 rfl lk_Shop_202 (w_Shop_owlWith (d + 0) hv0 hG hr2) rfl rfl d_Shop_firstIdleOwl_15 (aft_ro ?_)
    obtain ⟨b3, h⟩ := chk_some h
    refine Ev.at (pc' := 18) rfl (Ev.cong (st' := [.inr (0, off 4 r2)]) ?_ rfl rfl)
    refine cv_get9 (.inl (.int (μ 4 r2 0))) hG (show vc 4 _ from dlt9 b3) fg_Shop_216_4 rfl rfl d_Shop_firstIdleOwl_18 ?_
    refine ev_if_ne (tgt := 26) (by decide) d_Shop_firstIdleOwl_21 (fun c => ?_) (fun c => ?_)
    · rw [if_neg c] at h
      refine cw_iincN 1 1 [some (.inr (0, off 9 j0)), some (.inl (.int (x1 + 1)))] d_Shop_firstIdleOwl_26 rfl rfl rfl rfl rfl ?_
      refine ev_goto (tgt := 2) (by decide) d_Shop_firstIdleOwl_29 ?_
      exact kC _ (Option.some.inj h).symm
    · rw [if_pos c] at h
      refine ev_iload_n (k0 := 1) rfl d_Shop_firstIdleOwl_24 ?_
      have hP := kE _ (Option.some.inj h).symm
      exact ev_ireturn (st := []) rfl rfl d_Shop_firstIdleOwl_25 (by rw [hP]; exact ⟨rfl, rfl⟩)
set_option maxRecDepth 100000 in
set_option maxHeartbeats 4000000 in
theorem w_Shop_firstIdleOwl {g : GL} {F G : RG} {nx : Nat} (d : Nat) {j0 : Nat} {μ : Mem} (hv0 : vc 9 j0)  {o : Int32} (hG : LM vc 0 535 μ F G) (h : f_Shop_firstIdleOwl j0 μ = some o) : Mt g (d + 1) m_Shop_firstIdleOwl [.inr (0, off 9 j0)] (G, nx) 0 0 (pRO (rI o) (G, nx)) := by
  unfold f_Shop_firstIdleOwl at h
  have kE : ∀ v, o = v → pRO (rI o) (G, nx) = pRO (rI v) (G, nx) := fun v e => by subst e; rfl
  refine Mt.of9 [some (.inr (0, off 9 j0)), none] (by decide +kernel) rfl rfl rfl rfl ?_
  refine cw_iconst 0 d_Shop_firstIdleOwl_0 rfl ?_
  refine cw_istoreN_n 1 0 rfl [some (.inr (0, off 9 j0)), some (.inl (.int 0))] d_Shop_firstIdleOwl_1 rfl rfl rfl ?_
  obtain ⟨q1, hl, h⟩ := bind_some9 h
  refine it_ev (W := fun (s : Int32) => Ev g (d + 1) m_Shop_firstIdleOwl 2 [some (.inr (0, off 9 j0)), some (.inl (.int s))] [] (G, nx) 0 0 (pRO (rI o) (G, nx))) (X := fun z => z = q1) rfl (fun s9 o9 hs kC9 kX9 => ?_) LIM _ hl
  refine ws_Shop_firstIdleOwl_2 d hv0 hG hs kC9 (fun r2 e => ?_) (fun v e => ?_)
  · obtain rfl := kX9 _ e
    rw [els_l] at h
    refine cw_iconst (-1) d_Shop_firstIdleOwl_32 rfl ?_
    have hP := kE _ (Option.some.inj h).symm
    exact ev_ireturn (st := []) rfl rfl d_Shop_firstIdleOwl_33 (by rw [hP]; exact ⟨rfl, rfl⟩)
  · obtain rfl := kX9 _ e
    rw [els_r] at h
    exact kE _ (Option.some.inj h).symm

/-- ProphecyShop$Names.has -/
def f_Names_has (j0 : Nat) (x1 : Int32) (μ : Mem) : Option (Int32) :=
  if x1 < 0 then some 0 else (if (μ 3 j0 1) ≤ x1 then some 0 else (some 1))
set_option maxRecDepth 100000 in
set_option maxHeartbeats 4000000 in
theorem w_Names_has {g : GL} {F G : RG} {nx : Nat} (d : Nat) {j0 : Nat} {x1 : Int32} {μ : Mem} (hv0 : vc 3 j0)  {o : Int32} (hG : LM vc 0 535 μ F G) (h : f_Names_has j0 x1 μ = some o) : Mt g (d + 0) m_Names_has [.inr (0, off 3 j0), .inl (.int x1)] (G, nx) 0 0 (pRO (rI o) (G, nx)) := by
  unfold f_Names_has at h
  have kE : ∀ v, o = v → pRO (rI o) (G, nx) = pRO (rI v) (G, nx) := fun v e => by subst e; rfl
  refine Mt.of9 [some (.inr (0, off 3 j0)), some (.inl (.int x1))] (by decide +kernel) rfl rfl rfl rfl ?_
  refine ev_iload_n (k0 := 1) rfl d_Names_has_0 ?_
  refine ev_if_lt (tgt := 16) (by decide) d_Names_has_1 (fun c => ?_) (fun c => ?_)
  · rw [if_pos c] at h
    refine cw_iconst 0 d_Names_has_16 rfl ?_
    have hP := kE _ (Option.some.inj h).symm
    exact ev_ireturn (st := []) rfl rfl d_Names_has_17 (by rw [hP]; exact ⟨rfl, rfl⟩)
  · rw [if_neg c] at h
    refine ev_iload_n (k0 := 1) rfl d_Names_has_4 ?_
    refine ev_aload_n (k0 := 0) rfl d_Names_has_5 ?_
    refine cv_get9 (.inl (.int (μ 3 j0 1))) hG hv0 fg_Names_15_3 rfl rfl d_Names_has_6 ?_
    refine ev_icmp_ge (tgt := 16) (by decide) d_Names_has_9 (fun c => ?_) (fun c => ?_)
    · rw [if_pos c] at h
      refine cw_iconst 0 d_Names_has_16 rfl ?_
      have hP := kE _ (Option.some.inj h).symm
      exact ev_ireturn (st := []) rfl rfl d_Names_has_17 (by rw [hP]; exact ⟨rfl, rfl⟩)
    · rw [if_neg c] at h
      refine cw_iconst 1 d_Names_has_12 rfl ?_
      refine ev_goto (tgt := 17) (by decide) d_Names_has_13 ?_
      have hP := kE _ (Option.some.inj h).symm
      exact ev_ireturn (st := []) rfl rfl d_Names_has_17 (by rw [hP]; exact ⟨rfl, rfl⟩)

/-- ProphecyShop$Setup.flightDays -/
def f_Setup_flightDays (j0 : Nat) (x1 : Int32) (x2 : Int32) (μ : Mem) : Option (Int32) :=
  ((if x1 < 0 then (some (0)) else (if (μ 7 j0 11) ≤ x1 then (some (0)) else (chk (inb x1 5) (some (μ 26 j0 x1.toNatClampNeg)))) : Option (Int32))).bind (fun q1 => if q1 < 1 then some 0 else (((f_Names_has (3 * j0 + 2) x2 μ)).bind (fun r2 => if r2 = 0 then some 0 else (chk (inb x2 8) (chk (decide (¬ q1 = 0)) (some ((((μ 25 j0 x2.toNatClampNeg) + q1) - 1) / q1)))))))
set_option maxRecDepth 100000 in
set_option maxHeartbeats 4000000 in
theorem w_Setup_flightDays {g : GL} {F G : RG} {nx : Nat} (d : Nat) {j0 : Nat} {x1 : Int32} {x2 : Int32} {μ : Mem} (hv0 : vc 7 j0)  {o : Int32} (hG : LM vc 0 535 μ F G) (h : f_Setup_flightDays j0 x1 x2 μ = some o) : Mt g (d + 1) m_Setup_flightDays [.inr (0, off 7 j0), .inl (.int x1), .inl (.int x2)] (G, nx) 0 0 (pRO (rI o) (G, nx)) := by
  unfold f_Setup_flightDays at h
  have kE : ∀ v, o = v → pRO (rI o) (G, nx) = pRO (rI v) (G, nx) := fun v e => by subst e; rfl
  refine Mt.of9 [some (.inr (0, off 7 j0)), some (.inl (.int x1)), some (.inl (.int x2)), none] (by decide +kernel) rfl rfl rfl rfl ?_
  refine ev_iload_n (k0 := 1) rfl d_Setup_flightDays_0 ?_
  obtain ⟨q1, hj, h⟩ := bind_some9 h
  have K_q1 : Ev g (d + 1) m_Setup_flightDays 22 [some (.inr (0, off 7 j0)), none, some (.inl (.int x2)), none] [.inl (.int q1)] (G, nx) 0 0 (pRO (rI o) (G, nx)) := by
    refine cw_istoreN_n 3 q1 rfl [some (.inr (0, off 7 j0)), none, some (.inl (.int x2)), some (.inl (.int q1))] d_Setup_flightDays_22 rfl rfl rfl ?_
    refine ev_iload_n (k0 := 3) rfl d_Setup_flightDays_23 ?_
    refine cw_iconst 1 d_Setup_flightDays_24 rfl ?_
    refine ev_icmp_lt (tgt := 39) (by decide) d_Setup_flightDays_25 (fun c => ?_) (fun c => ?_)
    · rw [if_pos c] at h
      refine cw_iconst 0 d_Setup_flightDays_39 rfl ?_
      have hP := kE _ (Option.some.inj h).symm
      exact ev_ireturn (st := []) rfl rfl d_Setup_flightDays_40 (by rw [hP]; exact ⟨rfl, rfl⟩)
    · rw [if_neg c] at h
      refine ev_aload_n (k0 := 0) rfl d_Setup_flightDays_28 ?_
      refine cv_get9 (.inr (0, off 3 (3 * j0 + 2))) hG hv0 fg_Setup_37_7 rfl rfl d_Setup_flightDays_29 ?_
      refine ev_iload_n (k0 := 2) rfl d_Setup_flightDays_32 ?_
      obtain ⟨r2, hr2, h⟩ := bind_some9 h
      refine cv_V (d := d + 0) (mc1 := 0) (ms1 := 0) (mc := 0) (ms := 0) [.inl (.int x2)] hG (tv_7_7 hv0) rfl lk_Setup_60 (w_Names_has (d + 0) (tv_7_7 hv0) hG hr2) rfl rfl d_Setup_flightDays_33 (aft_ro ?_)
      refine Ev.at (pc' := 36) rfl (Ev.cong (st' := [.inl (.int r2)]) ?_ rfl rfl)
      refine ev_if_ne (tgt := 41) (by decide) d_Setup_flightDays_36 (fun c => ?_) (fun c => ?_)
      · rw [if_neg c] at h
        refine ev_aload_n (k0 := 0) rfl d_Setup_flightDays_41 ?_
        refine cv_get9 (.inr (0, off 25 j0)) hG hv0 fg_Setup_44_7 rfl rfl d_Setup_flightDays_42 ?_
        refine ev_iload_n (k0 := 2) rfl d_Setup_flightDays_45 ?_
        obtain ⟨b3, h⟩ := chk_some h
        refine cv_iald hG (tv_7_9 hv0) rfl rfl b3 rfl d_Setup_flightDays_46 ?_
        refine ev_iload_n (k0 := 3) rfl d_Setup_flightDays_47 ?_
        refine ev_iadd d_Setup_flightDays_48 ?_
        refine cw_iconst 1 d_Setup_flightDays_49 rfl ?_
        refine ev_isub d_Setup_flightDays_50 ?_
        refine ev_iload_n (k0 := 3) rfl d_Setup_flightDays_51 ?_
        obtain ⟨b4, h⟩ := chk_some h
        refine ev_idiv (of_decide_eq_true b4) d_Setup_flightDays_52 ?_
        have hP := kE _ (Option.some.inj h).symm
        exact ev_ireturn (st := []) rfl rfl d_Setup_flightDays_53 (by rw [hP]; exact ⟨rfl, rfl⟩)
      · rw [if_pos c] at h
        refine cw_iconst 0 d_Setup_flightDays_39 rfl ?_
        have hP := kE _ (Option.some.inj h).symm
        exact ev_ireturn (st := []) rfl rfl d_Setup_flightDays_40 (by rw [hP]; exact ⟨rfl, rfl⟩)
  clear h
  have h := hj
  refine ev_if_lt (tgt := 21) (by decide) d_Setup_flightDays_1 (fun c => ?_) (fun c => ?_)
  · rw [if_pos c] at h
    refine cw_iconst 0 d_Setup_flightDays_21 rfl ?_
    obtain rfl := Option.some.inj h
    exact Ev.sub (.s (.n (.s (.n LSb.z)))) (K_q1)
  · rw [if_neg c] at h
    refine ev_iload_n (k0 := 1) rfl d_Setup_flightDays_4 ?_
    refine ev_aload_n (k0 := 0) rfl d_Setup_flightDays_5 ?_
    refine cv_get9 (.inl (.int (μ 7 j0 11))) hG hv0 fg_Setup_50_7 rfl rfl d_Setup_flightDays_6 ?_
    refine ev_icmp_ge (tgt := 21) (by decide) d_Setup_flightDays_9 (fun c => ?_) (fun c => ?_)
    · rw [if_pos c] at h
      refine cw_iconst 0 d_Setup_flightDays_21 rfl ?_
      obtain rfl := Option.some.inj h
      exact Ev.sub (.s (.n (.s (.n LSb.z)))) (K_q1)
    · rw [if_neg c] at h
      refine ev_aload_n (k0 := 0) rfl d_Setup_flightDays_12 ?_
      refine cv_get9 (.inr (0, off 26 j0)) hG hv0 fg_Setup_47_7 rfl rfl d_Setup_flightDays_13 ?_
      refine ev_iload_n (k0 := 1) rfl d_Setup_flightDays_16 ?_
      obtain ⟨b5, h⟩ := chk_some h
      refine cv_iald hG (tv_7_10 hv0) rfl rfl b5 rfl d_Setup_flightDays_17 ?_
      refine ev_goto (tgt := 22) (by decide) d_Setup_flightDays_18 ?_
      obtain rfl := Option.some.inj h
      exact Ev.sub (.s (.n (.s (.n LSb.z)))) (K_q1)

/-- ProphecyShop$Owl.leaveFor -/
def f_Owl_leaveFor (j0 : Nat) (x1 : Int32) (x2 : Int32) (x3 : Int32) (μ : Mem) : Option (Mem) :=
  nm (st3 μ 4 j0 2 x1) (fun μ1 => nm (st3 μ1 4 j0 1 x2) (fun μ2 => nm (st3 μ2 4 j0 3 x3) (fun μ3 => nm (st3 μ3 4 j0 0 x3) (fun μ4 => nm (st3 μ4 4 j0 4 1) (fun μ5 => some μ5)))))
set_option maxRecDepth 100000 in
set_option maxHeartbeats 4000000 in
theorem w_Owl_leaveFor {g : GL} {F G : RG} {nx : Nat} (d : Nat) {j0 : Nat} {x1 : Int32} {x2 : Int32} {x3 : Int32} {μ : Mem} (hv0 : vc 4 j0)  {o : Mem} (hG : LM vc 0 535 μ F G) (h : f_Owl_leaveFor j0 x1 x2 x3 μ = some o) : Mt g (d + 0) m_Owl_leaveFor [.inr (0, off 4 j0), .inl (.int x1), .inl (.int x2), .inl (.int x3)] (G, nx) 0 0 (pRW vc 0 535 rV o F nx) := by
  unfold f_Owl_leaveFor at h
  have kE : ∀ v, o = v → pRW vc 0 535 rV o F nx = pRW vc 0 535 rV v F nx := fun v e => by subst e; rfl
  refine Mt.of9 [some (.inr (0, off 4 j0)), some (.inl (.int x1)), some (.inl (.int x2)), some (.inl (.int x3))] (by decide +kernel) rfl rfl rfl rfl ?_
  refine ev_aload_n (k0 := 0) rfl d_Owl_leaveFor_0 ?_
  refine ev_iload_n (k0 := 1) rfl d_Owl_leaveFor_1 ?_
  obtain ⟨μ1, e_μ1, h⟩ := nm_some h
  refine cv_put (.inl (.int x1)) x1 hG okC hv0 fl_Owl_18_4 rfl rfl okv_int d_Owl_leaveFor_2 ?_
  intro G hG; rw [← e_μ1] at hG
  refine ev_aload_n (k0 := 0) rfl d_Owl_leaveFor_5 ?_
  refine ev_iload_n (k0 := 2) rfl d_Owl_leaveFor_6 ?_
  obtain ⟨μ2, e_μ2, h⟩ := nm_some h
  refine cv_put (.inl (.int x2)) x2 hG okC hv0 fl_Owl_15_4 rfl rfl okv_int d_Owl_leaveFor_7 ?_
  intro G hG; rw [← e_μ2] at hG
  refine ev_aload_n (k0 := 0) rfl d_Owl_leaveFor_10 ?_
  refine ev_iload_n (k0 := 3) rfl d_Owl_leaveFor_11 ?_
  obtain ⟨μ3, e_μ3, h⟩ := nm_some h
  refine cv_put (.inl (.int x3)) x3 hG okC hv0 fl_Owl_21_4 rfl rfl okv_int d_Owl_leaveFor_12 ?_
  intro G hG; rw [← e_μ3] at hG
  refine ev_aload_n (k0 := 0) rfl d_Owl_leaveFor_15 ?_
  refine ev_iload_n (k0 := 3) rfl d_Owl_leaveFor_16 ?_
  refine Ev.at (pc' := 17) rfl ?_
  obtain ⟨μ4, e_μ4, h⟩ := nm_some h
  refine cv_put (.inl (.int x3)) x3 hG okC hv0 fl_Owl_9_4 rfl rfl okv_int d_Owl_leaveFor_17 ?_
  intro G hG; rw [← e_μ4] at hG
  refine ev_aload_n (k0 := 0) rfl d_Owl_leaveFor_20 ?_
  refine cw_iconst 1 d_Owl_leaveFor_21 rfl ?_
  obtain ⟨μ5, e_μ5, h⟩ := nm_some h
  refine cv_put (.inl (.int 1)) 1 hG okC hv0 fl_Owl_24_4 rfl rfl (okv_bool rfl) d_Owl_leaveFor_22 ?_
  intro G hG; rw [← e_μ5] at hG
  have hP := kE _ (Option.some.inj h).symm
  exact ev_return (st := []) rfl d_Owl_leaveFor_25 (by rw [hP]; exact ⟨rfl, hG, rfl⟩)

/-- ProphecyShop$Shop.pay -/
def f_Shop_pay (j0 : Nat) (j1 : Nat) (x2 : Int32) (μ : Mem) : Option (Mem) :=
  ((f_Shop_refundFor j0 j1 μ)).bind (fun r1 => nm (st3 μ 9 j0 2 ((μ 9 j0 2) - r1)) (fun μ2 => nm (st3 μ2 9 j0 14 ((μ2 9 j0 14) + r1)) (fun μ3 => nm (st3 μ3 5 j1 7 3) (fun μ4 => ((f_Shop_owlWith j0 x2 μ4)).bind (fun r5 => chk (decide (r5 < 60)) (chk (decide ((μ4 9 j0 0).toNatClampNeg < 2)) (((f_Setup_flightDays ((μ4 9 j0 0).toNatClampNeg) x2 (μ4 5 j1 0) μ4)).bind (fun r8 => ((f_Owl_leaveFor r5 (μ4 5 j1 0) r1 r8 μ4)).bind (fun r9 => some r9)))))))))
set_option maxRecDepth 100000 in
set_option maxHeartbeats 4000000 in
theorem w_Shop_pay {g : GL} {F G : RG} {nx : Nat} (d : Nat) {j0 : Nat} {j1 : Nat} {x2 : Int32} {μ : Mem} (hv0 : vc 9 j0) (hv1 : vc 5 j1)  {o : Mem} (hG : LM vc 0 535 μ F G) (h : f_Shop_pay j0 j1 x2 μ = some o) : Mt g (d + 2) m_Shop_pay [.inr (0, off 9 j0), .inr (0, off 5 j1), .inl (.int x2)] (G, nx) 0 0 (pRW vc 0 535 rV o F nx) := by
  unfold f_Shop_pay at h
  have kE : ∀ v, o = v → pRW vc 0 535 rV o F nx = pRW vc 0 535 rV v F nx := fun v e => by subst e; rfl
  refine Mt.of9 [some (.inr (0, off 9 j0)), some (.inr (0, off 5 j1)), some (.inl (.int x2)), none] (by decide +kernel) rfl rfl rfl rfl ?_
  refine ev_aload_n (k0 := 0) rfl d_Shop_pay_0 ?_
  refine ev_aload_n (k0 := 1) rfl d_Shop_pay_1 ?_
  obtain ⟨r1, hr1, h⟩ := bind_some9 h
  refine cv_V (d := d + 1) (mc1 := 0) (ms1 := 0) (mc := 0) (ms := 0) [.inr (0, off 5 j1)] hG hv0 rfl lk_Shop_174 (w_Shop_refundFor (d + 1) hv0 hv1 hG hr1) rfl rfl d_Shop_pay_2 (aft_ro ?_)
  refine Ev.at (pc' := 5) rfl (Ev.cong (st' := [.inl (.int r1)]) ?_ rfl rfl)
  refine cw_istoreN_n 3 r1 rfl [some (.inr (0, off 9 j0)), some (.inr (0, off 5 j1)), some (.inl (.int x2)), some (.inl (.int r1))] d_Shop_pay_5 rfl rfl rfl ?_
  refine ev_aload_n (k0 := 0) rfl d_Shop_pay_6 ?_
  refine ev_dup rfl d_Shop_pay_7 ?_
  refine cv_get9 (.inl (.int (μ 9 j0 2))) hG hv0 fg_Shop_15_9 rfl rfl d_Shop_pay_8 ?_
  refine ev_iload_n (k0 := 3) rfl d_Shop_pay_11 ?_
  refine ev_isub d_Shop_pay_12 ?_
  obtain ⟨μ2, e_μ2, h⟩ := nm_some h
  refine cv_put (.inl (.int ((μ 9 j0 2) - r1))) ((μ 9 j0 2) - r1) hG okC hv0 fl_Shop_15_9 rfl rfl okv_int d_Shop_pay_13 ?_
  intro G hG; rw [← e_μ2] at hG
  refine ev_aload_n (k0 := 0) rfl d_Shop_pay_16 ?_
  refine ev_dup rfl d_Shop_pay_17 ?_
  refine cv_get9 (.inl (.int (μ2 9 j0 14))) hG hv0 fg_Shop_58_9 rfl rfl d_Shop_pay_18 ?_
  refine ev_iload_n (k0 := 3) rfl d_Shop_pay_21 ?_
  refine Ev.at (pc' := 22) rfl ?_
  refine ev_iadd d_Shop_pay_22 ?_
  obtain ⟨μ3, e_μ3, h⟩ := nm_some h
  refine cv_put (.inl (.int ((μ2 9 j0 14) + r1))) ((μ2 9 j0 14) + r1) hG okC hv0 fl_Shop_58_9 rfl rfl okv_int d_Shop_pay_23 ?_
  intro G hG; rw [← e_μ3] at hG
  refine ev_aload_n (k0 := 1) rfl d_Shop_pay_26 ?_
  refine cw_iconst 3 d_Shop_pay_27 rfl ?_
  obtain ⟨μ4, e_μ4, h⟩ := nm_some h
  refine cv_put (.inl (.int 3)) 3 hG okC hv1 fl_Shop_137_5 rfl rfl okv_int d_Shop_pay_28 ?_
  intro G hG; rw [← e_μ4] at hG
  refine ev_aload_n (k0 := 0) rfl d_Shop_pay_31 ?_
  refine ev_iload_n (k0 := 2) rfl d_Shop_pay_32 ?_
  obtain ⟨r5, hr5, h⟩ := bind_some9 h
  refine cv_V (d := d + 1) (mc1 := 0) (ms1 := 0) (mc := 0) (ms := 0) [.inl (.int x2)] hG hv0 rfl lk_Shop_202 (w_Shop_owlWith (d + 1) hv0 hG hr5) rfl rfl d_Shop_pay_33 (aft_ro ?_)
  obtain ⟨b6, h⟩ := chk_some h
  refine Ev.at (pc' := 36) rfl (Ev.cong (st' := [.inr (0, off 4 r5)]) ?_ rfl rfl)
  refine ev_aload_n (k0 := 1) rfl d_Shop_pay_36 ?_
  refine cv_get9 (.inl (.int (μ4 5 j1 0))) hG hv1 fg_Shop_116_5 rfl rfl d_Shop_pay_37 ?_
  refine ev_iload_n (k0 := 3) rfl d_Shop_pay_40 ?_
  refine ev_aload_n (k0 := 0) rfl d_Shop_pay_41 ?_
  obtain ⟨b7, h⟩ := chk_some h
  refine cv_get9 (.inr (0, off 7 ((μ4 9 j0 0).toNatClampNeg))) hG hv0 fg_Shop_61_9 rfl rfl d_Shop_pay_42 ?_
  refine ev_iload_n (k0 := 2) rfl d_Shop_pay_45 ?_
  refine ev_aload_n (k0 := 1) rfl d_Shop_pay_46 ?_
  refine cv_get9 (.inl (.int (μ4 5 j1 0))) hG hv1 fg_Shop_116_5 rfl rfl d_Shop_pay_47 ?_
  obtain ⟨r8, hr8, h⟩ := bind_some9 h
  refine cv_V (d := d + 1) (mc1 := 0) (ms1 := 0) (mc := 0) (ms := 0) [.inl (.int x2), .inl (.int (μ4 5 j1 0))] hG (show vc 7 _ from dlt9 b7) rfl lk_Shop_206 (w_Setup_flightDays (d + 0) (show vc 7 _ from dlt9 b7) hG hr8) rfl rfl d_Shop_pay_50 (aft_ro ?_)
  refine Ev.at (pc' := 53) rfl (Ev.cong (st' := [.inl (.int r8), .inl (.int r1), .inl (.int (μ4 5 j1 0)), .inr (0, off 4 r5)]) ?_ rfl rfl)
  obtain ⟨r9, hr9, h⟩ := bind_some9 h
  refine cv_V (d := d + 1) (mc1 := 0) (ms1 := 0) (mc := 0) (ms := 0) [.inl (.int (μ4 5 j1 0)), .inl (.int r1), .inl (.int r8)] hG (show vc 4 _ from dlt9 b6) rfl lk_Shop_209 (w_Owl_leaveFor (d + 1) (show vc 4 _ from dlt9 b6) hG hr9) rfl rfl d_Shop_pay_53 (aft_rw (fun G hG => ?_))
  refine Ev.at (pc' := 56) rfl (Ev.cong (st' := []) ?_ rfl rfl)
  have hP := kE _ (Option.some.inj h).symm
  exact ev_return (st := []) rfl d_Shop_pay_56 (by rw [hP]; exact ⟨rfl, hG, rfl⟩)

/-- ProphecyShop$Shop.removeFirstRequest -/
def s_Shop_removeFirstRequest_2 (j0 : Nat) (x1 : Int32) (μ : Mem) : Option ((Int32 × Mem) ⊕ (Mem)) :=
  if (μ 9 j0 8) ≤ x1 then (some (.inr μ)) else (chk (inb x1 24) (chk (inb (x1 - 1) 24) (nm (st3 μ 30 j0 (x1 - 1).toNatClampNeg (μ 30 j0 x1.toNatClampNeg)) (fun μ3 => some (.inl ((x1 + 1, μ3)))))))
def f_Shop_removeFirstRequest (j0 : Nat) (μ : Mem) : Option (Mem) :=
  (it (fun (s : Int32 × Mem) => s_Shop_removeFirstRequest_2 j0 s.1 s.2) LIM ((1, μ))).bind (fun q1 => nm (st3 q1 9 j0 8 ((q1 9 j0 8) - 1)) (fun μ2 => some μ2))
set_option maxRecDepth 100000 in
set_option maxHeartbeats 4000000 in
theorem ws_Shop_removeFirstRequest_2 {g : GL} {F G : RG} {nx mc ms : Nat} {Post : RO → RM → Prop} (d : Nat) {j0 : Nat} {x1 : Int32} {μ : Mem} (hv0 : vc 9 j0)  {o : (Int32 × Mem) ⊕ (Mem)} (hG : LM vc 0 535 μ F G) (h : s_Shop_removeFirstRequest_2 j0 x1 μ = some o)
    (kC : ∀ s', o = .inl s' → ∀ G, LM vc 0 535 s'.2 F G → Ev g (d + 0) m_Shop_removeFirstRequest 2 [some (.inr (0, off 9 j0)), some (.inl (.int s'.1))] [] (G, nx) mc ms Post)
    (kX : ∀ r, o = .inr r → ∀ G, LM vc 0 535 r F G → Ev g (d + 0) m_Shop_removeFirstRequest 30 [some (.inr (0, off 9 j0)), none] [] (G, nx) mc ms Post)
    : Ev g (d + 0) m_Shop_removeFirstRequest 2 [some (.inr (0, off 9 j0)), some (.inl (.int x1))] [] (G, nx) mc ms Post := by
  unfold s_Shop_removeFirstRequest_2 at h
  refine ev_iload_n (k0 := 1) rfl d_Shop_removeFirstRequest_2 ?_
  refine ev_aload_n (k0 := 0) rfl d_Shop_removeFirstRequest_3 ?_
  refine cv_get9 (.inl (.int (μ 9 j0 8))) hG hv0 fg_Shop_40_9 rfl rfl d_Shop_removeFirstRequest_4 ?_
  refine ev_icmp_ge (tgt := 30) (by decide) d_Shop_removeFirstRequest_7 (fun c => ?_) (fun c => ?_)
  · rw [if_pos c] at h
    exact Ev.sub (.s (.n LSb.z)) (kX _ (Option.some.inj h).symm G hG)
  · rw [if_neg c] at h
    refine ev_aload_n (k0 := 0) rfl d_Shop_removeFirstRequest_10 ?_
    refine cv_get9 (.inr (0, off 30 j0)) hG hv0 fg_Shop_37_9 rfl rfl d_Shop_removeFirstRequest_11 ?_
    refine ev_iload_n (k0 := 1) rfl d_Shop_removeFirstRequest_14 ?_
    refine cw_iconst 1 d_Shop_removeFirstRequest_15 rfl ?_
    refine ev_isub d_Shop_removeFirstRequest_16 ?_
    refine ev_aload_n (k0 := 0) rfl d_Shop_removeFirstRequest_17 ?_
    refine cv_get9 (.inr (0, off 30 j0)) hG hv0 fg_Shop_37_9 rfl rfl d_Shop_removeFirstRequest_18 ?_
    refine ev_iload_n (k0 := 1) rfl d_Shop_removeFirstRequest_21 ?_
    obtain ⟨b1, h⟩ := chk_some h
    refine cv_iald hG (tv_9_7 hv0) rfl rfl b1 rfl d_Shop_removeFirstRequest_22 ?_
    obtain ⟨b2, h⟩ := chk_some h
    obtain ⟨μ3, e_μ3, h⟩ := nm_some h
    refine cv_iast hG okC (tv_9_7 hv0) rfl rfl b2 rfl d_Shop_removeFirstRequest_23 ?_
    intro G hG; rw [← e_μ3] at hG
    refine cw_iincN 1 1 [some (.inr (0, off 9 j0)), some (.inl (.int (x1 + 1)))] d_Shop_removeFirstRequest_24 rfl rfl rfl rfl rfl ?_
    refine Ev.at (pc' := 27) rfl ?_
    refine ev_goto (tgt := 2) (by decide) d_Shop_removeFirstRequest_27 ?_
    exact kC _ (Option.some.inj h).symm G hG
set_option maxRecDepth 100000 in
set_option maxHeartbeats 4000000 in
theorem w_Shop_removeFirstRequest {g : GL} {F G : RG} {nx : Nat} (d : Nat) {j0 : Nat} {μ : Mem} (hv0 : vc 9 j0)  {o : Mem} (hG : LM vc 0 535 μ F G) (h : f_Shop_removeFirstRequest j0 μ = some o) : Mt g (d + 0) m_Shop_removeFirstRequest [.inr (0, off 9 j0)] (G, nx) 0 0 (pRW vc 0 535 rV o F nx) := by
  unfold f_Shop_removeFirstRequest at h
  have kE : ∀ v, o = v → pRW vc 0 535 rV o F nx = pRW vc 0 535 rV v F nx := fun v e => by subst e; rfl
  refine Mt.of9 [some (.inr (0, off 9 j0)), none] (by decide +kernel) rfl rfl rfl rfl ?_
  refine cw_iconst 1 d_Shop_removeFirstRequest_0 rfl ?_
  refine cw_istoreN_n 1 1 rfl [some (.inr (0, off 9 j0)), some (.inl (.int 1))] d_Shop_removeFirstRequest_1 rfl rfl rfl ?_
  obtain ⟨q1, hl, h⟩ := bind_some9 h
  refine it_ev (W := fun (s : Int32 × Mem) => ∀ G, LM vc 0 535 s.2 F G → Ev g (d + 0) m_Shop_removeFirstRequest 2 [some (.inr (0, off 9 j0)), some (.inl (.int s.1))] [] (G, nx) 0 0 (pRW vc 0 535 rV o F nx)) (X := fun z => z = q1) rfl (fun s9 o9 hs kC9 kX9 => ?_) LIM _ hl G hG
  intro G hG
  refine ws_Shop_removeFirstRequest_2 d hv0 hG hs kC9 (fun r_ e G hG => ?_)
  · obtain rfl := (kX9 _ e).symm
    refine ev_aload_n (k0 := 0) rfl d_Shop_removeFirstRequest_30 ?_
    refine ev_dup rfl d_Shop_removeFirstRequest_31 ?_
    refine cv_get9 (.inl (.int (q1 9 j0 8))) hG hv0 fg_Shop_40_9 rfl rfl d_Shop_removeFirstRequest_32 ?_
    refine cw_iconst 1 d_Shop_removeFirstRequest_35 rfl ?_
    refine ev_isub d_Shop_removeFirstRequest_36 ?_
    obtain ⟨μ2, e_μ2, h⟩ := nm_some h
    refine cv_put (.inl (.int ((q1 9 j0 8) - 1))) ((q1 9 j0 8) - 1) hG okC hv0 fl_Shop_40_9 rfl rfl okv_int d_Shop_removeFirstRequest_37 ?_
    intro G hG; rw [← e_μ2] at hG
    have hP := kE _ (Option.some.inj h).symm
    exact ev_return (st := []) rfl d_Shop_removeFirstRequest_40 (by rw [hP]; exact ⟨rfl, hG, rfl⟩)

/-- ProphecyShop$Shop.handleFirstRequest -/
def f_Shop_handleFirstRequest (j0 : Nat) (μ : Mem) : Option (Int32 × Mem) :=
  ((f_Shop_requestAt j0 0 μ)).bind (fun r1 => ((f_Shop_hasSold j0 r1 μ)).bind (fun r2 => if r2 = 0 then (some ((0, μ))) else (((f_Shop_prophecyWith j0 r1 μ)).bind (fun r3 => chk (decide (r3 < 288)) (((f_Shop_answerTo j0 r3 μ)).bind (fun r5 => if r5 = 1 then (((f_Shop_firstIdleOwl j0 μ)).bind (fun r8 => if r8 = ((-1)) then (some ((0, μ))) else (((f_Shop_pay j0 r3 r8 μ)).bind (fun r9 => nm (st3 r9 5 r3 9 r5) (fun μ10 => ((f_Shop_removeFirstRequest j0 μ10)).bind (fun r11 => some ((1, r11)))))))) else (nm (st3 μ 5 r3 9 r5) (fun μ6 => ((f_Shop_removeFirstRequest j0 μ6)).bind (fun r7 => some ((1, r7)))))))))))
set_option maxRecDepth 100000 in
set_option maxHeartbeats 4000000 in
theorem w_Shop_handleFirstRequest {g : GL} {F G : RG} {nx : Nat} (d : Nat) {j0 : Nat} {μ : Mem} (hv0 : vc 9 j0)  {o : Int32 × Mem} (hG : LM vc 0 535 μ F G) (h : f_Shop_handleFirstRequest j0 μ = some o) : Mt g (d + 3) m_Shop_handleFirstRequest [.inr (0, off 9 j0)] (G, nx) 0 0 (pRW vc 0 535 (rI o.1) o.2 F nx) := by
  unfold f_Shop_handleFirstRequest at h
  have kE : ∀ v, o = v → pRW vc 0 535 (rI o.1) o.2 F nx = pRW vc 0 535 (rI v.1) v.2 F nx := fun v e => by subst e; rfl
  refine Mt.of9 [some (.inr (0, off 9 j0)), none, none, none, none] (by decide +kernel) rfl rfl rfl rfl ?_
  refine ev_aload_n (k0 := 0) rfl d_Shop_handleFirstRequest_0 ?_
  refine cw_iconst 0 d_Shop_handleFirstRequest_1 rfl ?_
  obtain ⟨r1, hr1, h⟩ := bind_some9 h
  refine cv_V (d := d + 2) (mc1 := 0) (ms1 := 0) (mc := 0) (ms := 0) [.inl (.int 0)] hG hv0 rfl lk_Shop_181 (w_Shop_requestAt (d + 2) hv0 hG hr1) rfl rfl d_Shop_handleFirstRequest_2 (aft_ro ?_)
  refine Ev.at (pc' := 5) rfl (Ev.cong (st' := [.inl (.int r1)]) ?_ rfl rfl)
  refine cw_istoreN_n 1 r1 rfl [some (.inr (0, off 9 j0)), some (.inl (.int r1)), none, none, none] d_Shop_handleFirstRequest_5 rfl rfl rfl ?_
  refine ev_aload_n (k0 := 0) rfl d_Shop_handleFirstRequest_6 ?_
  refine ev_iload_n (k0 := 1) rfl d_Shop_handleFirstRequest_7 ?_
  obtain ⟨r2, hr2, h⟩ := bind_some9 h
  refine cv_V (d := d + 2) (mc1 := 0) (ms1 := 0) (mc := 0) (ms := 0) [.inl (.int r1)] hG hv0 rfl lk_Shop_90 (w_Shop_hasSold (d + 2) hv0 hG hr2) rfl rfl d_Shop_handleFirstRequest_8 (aft_ro ?_)
  refine Ev.at (pc' := 11) rfl (Ev.cong (st' := [.inl (.int r2)]) ?_ rfl rfl)
  refine ev_if_ne (tgt := 16) (by decide) d_Shop_handleFirstRequest_11 (fun c => ?_) (fun c => ?_)
  · rw [if_neg c] at h
    refine ev_aload_n (k0 := 0) rfl d_Shop_handleFirstRequest_16 ?_
    refine ev_iload_n (k0 := 1) rfl d_Shop_handleFirstRequest_17 ?_
    obtain ⟨r3, hr3, h⟩ := bind_some9 h
    refine cv_V (d := d + 2) (mc1 := 0) (ms1 := 0) (mc := 0) (ms := 0) [.inl (.int r1)] hG hv0 rfl lk_Shop_184 (w_Shop_prophecyWith (d + 1) hv0 hG hr3) rfl rfl d_Shop_handleFirstRequest_18 (aft_ro ?_)
    obtain ⟨b4, h⟩ := chk_some h
    refine Ev.at (pc' := 21) rfl (Ev.cong (st' := [.inr (0, off 5 r3)]) ?_ rfl rfl)
    refine cw_astoreN_n 2 [some (.inr (0, off 9 j0)), some (.inl (.int r1)), some (.inr (0, off 5 r3)), none, none] d_Shop_handleFirstRequest_21 rfl rfl rfl ?_
    refine ev_aload_n (k0 := 0) rfl d_Shop_handleFirstRequest_22 ?_
    refine ev_aload_n (k0 := 2) rfl d_Shop_handleFirstRequest_23 ?_
    obtain ⟨r5, hr5, h⟩ := bind_some9 h
    refine cv_V (d := d + 2) (mc1 := 0) (ms1 := 0) (mc := 0) (ms := 0) [.inr (0, off 5 r3)] hG hv0 rfl lk_Shop_188 (w_Shop_answerTo (d + 1) hv0 (show vc 5 _ from dlt9 b4) hG hr5) rfl rfl d_Shop_handleFirstRequest_24 (aft_ro ?_)
    refine Ev.at (pc' := 27) rfl (Ev.cong (st' := [.inl (.int r5)]) ?_ rfl rfl)
    refine cw_istoreN_n 3 r5 rfl [some (.inr (0, off 9 j0)), some (.inl (.int r1)), some (.inr (0, off 5 r3)), some (.inl (.int r5)), none] d_Shop_handleFirstRequest_27 rfl rfl rfl ?_
    refine ev_iload_n (k0 := 3) rfl d_Shop_handleFirstRequest_28 ?_
    refine cw_iconst 1 d_Shop_handleFirstRequest_29 rfl ?_
    refine ev_icmp_ne (tgt := 54) (by decide) d_Shop_handleFirstRequest_30 (fun c => ?_) (fun c => ?_)
    · rw [if_neg c] at h
      refine ev_aload_n (k0 := 2) rfl d_Shop_handleFirstRequest_54 ?_
      refine ev_iload_n (k0 := 3) rfl d_Shop_handleFirstRequest_55 ?_
      obtain ⟨μ6, e_μ6, h⟩ := nm_some h
      refine cv_put (.inl (.int r5)) r5 hG okC (show vc 5 _ from dlt9 b4) fl_Shop_140_5 rfl rfl okv_int d_Shop_handleFirstRequest_56 ?_
      intro G hG; rw [← e_μ6] at hG
      refine ev_aload_n (k0 := 0) rfl d_Shop_handleFirstRequest_59 ?_
      obtain ⟨r7, hr7, h⟩ := bind_some9 h
      refine cv_V (d := d + 2) (mc1 := 0) (ms1 := 0) (mc := 0) (ms := 0) [] hG hv0 rfl lk_Shop_199 (w_Shop_removeFirstRequest (d + 2) hv0 hG hr7) rfl rfl d_Shop_handleFirstRequest_60 (aft_rw (fun G hG => ?_))
      refine Ev.at (pc' := 63) rfl (Ev.cong (st' := []) ?_ rfl rfl)
      refine cw_iconst 1 d_Shop_handleFirstRequest_63 rfl ?_
      have hP := kE _ (Option.some.inj h).symm
      exact ev_ireturn (st := []) rfl rfl d_Shop_handleFirstRequest_64 (by rw [hP]; exact ⟨rfl, hG, rfl⟩)
    · rw [if_pos c] at h
      refine ev_aload_n (k0 := 0) rfl d_Shop_handleFirstRequest_33 ?_
      obtain ⟨r8, hr8, h⟩ := bind_some9 h
      refine cv_V (d := d + 2) (mc1 := 0) (ms1 := 0) (mc := 0) (ms := 0) [] hG hv0 rfl lk_Shop_191 (w_Shop_firstIdleOwl (d + 1) hv0 hG hr8) rfl rfl d_Shop_handleFirstRequest_34 (aft_ro ?_)
      refine Ev.at (pc' := 37) rfl (Ev.cong (st' := [.inl (.int r8)]) ?_ rfl rfl)
      refine cw_istoreN 4 r8 rfl [some (.inr (0, off 9 j0)), some (.inl (.int r1)), some (.inr (0, off 5 r3)), some (.inl (.int r5)), some (.inl (.int r8))] d_Shop_handleFirstRequest_37 rfl rfl rfl ?_
      refine ev_iload (i := 4) rfl d_Shop_handleFirstRequest_39 ?_
      refine cw_iconst (-1) d_Shop_handleFirstRequest_41 rfl ?_
      refine ev_icmp_ne (tgt := 47) (by decide) d_Shop_handleFirstRequest_42 (fun c => ?_) (fun c => ?_)
      · rw [if_neg c] at h
        refine ev_aload_n (k0 := 0) rfl d_Shop_handleFirstRequest_47 ?_
        refine ev_aload_n (k0 := 2) rfl d_Shop_handleFirstRequest_48 ?_
        refine ev_iload (i := 4) rfl d_Shop_handleFirstRequest_49 ?_
        obtain ⟨r9, hr9, h⟩ := bind_some9 h
        refine cv_V (d := d + 2) (mc1 := 0) (ms1 := 0) (mc := 0) (ms := 0) [.inr (0, off 5 r3), .inl (.int r8)] hG hv0 rfl lk_Shop_195 (w_Shop_pay (d + 0) hv0 (show vc 5 _ from dlt9 b4) hG hr9) rfl rfl d_Shop_handleFirstRequest_51 (aft_rw (fun G hG => ?_))
        refine Ev.at (pc' := 54) rfl (Ev.cong (st' := []) ?_ rfl rfl)
        refine ev_aload_n (k0 := 2) rfl d_Shop_handleFirstRequest_54 ?_
        refine ev_iload_n (k0 := 3) rfl d_Shop_handleFirstRequest_55 ?_
        obtain ⟨μ10, e_μ10, h⟩ := nm_some h
        refine cv_put (.inl (.int r5)) r5 hG okC (show vc 5 _ from dlt9 b4) fl_Shop_140_5 rfl rfl okv_int d_Shop_handleFirstRequest_56 ?_
        intro G hG; rw [← e_μ10] at hG
        refine ev_aload_n (k0 := 0) rfl d_Shop_handleFirstRequest_59 ?_
        obtain ⟨r11, hr11, h⟩ := bind_some9 h
        refine cv_V (d := d + 2) (mc1 := 0) (ms1 := 0) (mc := 0) (ms := 0) [] hG hv0 rfl lk_Shop_199 (w_Shop_removeFirstRequest (d + 2) hv0 hG hr11) rfl rfl d_Shop_handleFirstRequest_60 (aft_rw (fun G hG => ?_))
        refine Ev.at (pc' := 63) rfl (Ev.cong (st' := []) ?_ rfl rfl)
        refine cw_iconst 1 d_Shop_handleFirstRequest_63 rfl ?_
        have hP := kE _ (Option.some.inj h).symm
        exact ev_ireturn (st := []) rfl rfl d_Shop_handleFirstRequest_64 (by rw [hP]; exact ⟨rfl, hG, rfl⟩)
      · rw [if_pos c] at h
        refine cw_iconst 0 d_Shop_handleFirstRequest_45 rfl ?_
        have hP := kE _ (Option.some.inj h).symm
        exact ev_ireturn (st := []) rfl rfl d_Shop_handleFirstRequest_46 (by rw [hP]; exact ⟨rfl, hG, rfl⟩)
  · rw [if_pos c] at h
    refine cw_iconst 0 d_Shop_handleFirstRequest_14 rfl ?_
    have hP := kE _ (Option.some.inj h).symm
    exact ev_ireturn (st := []) rfl rfl d_Shop_handleFirstRequest_15 (by rw [hP]; exact ⟨rfl, hG, rfl⟩)

/-- ProphecyShop$Shop.passDays -/
def s_Shop_passDays_33 (j0 : Nat) (x1 : Int32) (x2 : Int32) (x3 : Int32) (x4 : Int32) (μ : Mem) : Option ((Int32 × Mem) ⊕ (Mem)) :=
  chk (decide ((μ 9 j0 0).toNatClampNeg < 2)) (if (μ 7 ((μ 9 j0 0).toNatClampNeg) 1) ≤ x4 then (some (.inr μ)) else (((f_Shop_handleFirstRequest j0 μ)).bind (fun r2 => if r2.1 = 0 then (some (.inr r2.2)) else (nm (st3 r2.2 9 j0 13 ((r2.2 9 j0 13) + 1)) (fun μ3 => some (.inl ((x4 + 1, μ3))))))))
def s_Shop_passDays_7 (j0 : Nat) (x1 : Int32) (x2 : Int32) (x3 : Int32) (μ : Mem) : Option ((Int32 × Mem) ⊕ (Mem)) :=
  if x1 ≤ x3 then (some (.inr μ)) else (nm (st3 μ 9 j0 1 ((μ 9 j0 1) + 1)) (fun μ1 => ((f_Shop_decideOverdue j0 μ1)).bind (fun r2 => ((f_Shop_moveOwls j0 r2)).bind (fun r3 => (it (fun (s : Int32 × Mem) => s_Shop_passDays_33 j0 x1 x2 x3 s.1 s.2) LIM ((0, r3))).bind (fun q4 => some (.inl ((x3 + 1, q4))))))))
def f_Shop_passDays (j0 : Nat) (x1 : Int32) (μ : Mem) : Option (Int32 × Mem) :=
  nm (μ 9 j0 13 : Int32) (fun v1 => (it (fun (s : Int32 × Mem) => s_Shop_passDays_7 j0 x1 v1 s.1 s.2) LIM ((0, μ))).bind (fun q2 => some (((q2 9 j0 13) - v1, q2))))
set_option maxRecDepth 100000 in
set_option maxHeartbeats 4000000 in
theorem ws_Shop_passDays_33 {g : GL} {F G : RG} {nx mc ms : Nat} {Post : RO → RM → Prop} (d : Nat) {j0 : Nat} {x1 : Int32} {x2 : Int32} {x3 : Int32} {x4 : Int32} {μ : Mem} (hv0 : vc 9 j0)  {o : (Int32 × Mem) ⊕ (Mem)} (hG : LM vc 0 535 μ F G) (h : s_Shop_passDays_33 j0 x1 x2 x3 x4 μ = some o)
    (kC : ∀ s', o = .inl s' → ∀ G, LM vc 0 535 s'.2 F G → Ev g (d + 4) m_Shop_passDays 33 [some (.inr (0, off 9 j0)), some (.inl (.int x1)), some (.inl (.int x2)), some (.inl (.int x3)), some (.inl (.int s'.1))] [] (G, nx) mc ms Post)
    (kX : ∀ r, o = .inr r → ∀ G, LM vc 0 535 r F G → Ev g (d + 4) m_Shop_passDays 68 [some (.inr (0, off 9 j0)), some (.inl (.int x1)), some (.inl (.int x2)), some (.inl (.int x3)), none] [] (G, nx) mc ms Post)
    : Ev g (d + 4) m_Shop_passDays 33 [some (.inr (0, off 9 j0)), some (.inl (.int x1)), some (.inl (.int x2)), some (.inl (.int x3)), some (.inl (.int x4))] [] (G, nx) mc ms Post := by
  unfold s_Shop_passDays_33 at h
  refine ev_iload (i := 4) rfl d_Shop_passDays_33 ?_
  refine ev_aload_n (k0 := 0) rfl d_Shop_passDays_35 ?_
  obtain ⟨b1, h⟩ := chk_some h
  refine cv_get9 (.inr (0, off 7 ((μ 9 j0 0).toNatClampNeg))) hG hv0 fg_Shop_61_9 rfl rfl d_Shop_passDays_36 ?_
  refine cv_get9 (.inl (.int (μ 7 ((μ 9 j0 0).toNatClampNeg) 1))) hG (show vc 7 _ from dlt9 b1) fg_Shop_231_7 rfl rfl d_Shop_passDays_39 ?_
  refine ev_icmp_ge (tgt := 68) (by decide) d_Shop_passDays_42 (fun c => ?_) (fun c => ?_)
  · rw [if_pos c] at h
    exact Ev.sub (.s (.s (.s (.s (.n LSb.z))))) (kX _ (Option.some.inj h).symm G hG)
  · rw [if_neg c] at h
    refine ev_aload_n (k0 := 0) rfl d_Shop_passDays_45 ?_
    obtain ⟨r2, hr2, h⟩ := bind_some9 h
    refine Ev.z9 ?_
    refine cv_V (d := d + 3) (mc1 := 0) (ms1 := 0) (mc := mc) (ms := ms) [] hG hv0 rfl lk_Shop_234 (w_Shop_handleFirstRequest (d + 0) hv0 hG hr2) rfl rfl d_Shop_passDays_46 (aft_rw (fun G hG => ?_))
    refine Ev.at (pc' := 49) rfl (Ev.cong (st' := [.inl (.int r2.1)]) ?_ rfl rfl)
    refine ev_if_eq (tgt := 68) (by decide) d_Shop_passDays_49 (fun c => ?_) (fun c => ?_)
    · rw [if_pos c] at h
      exact Ev.sub (.s (.s (.s (.s (.n LSb.z))))) (kX _ (Option.some.inj h).symm G hG)
    · rw [if_neg c] at h
      refine ev_aload_n (k0 := 0) rfl d_Shop_passDays_52 ?_
      refine ev_dup rfl d_Shop_passDays_53 ?_
      refine cv_get9 (.inl (.int (r2.2 9 j0 13))) hG hv0 fg_Shop_55_9 rfl rfl d_Shop_passDays_54 ?_
      refine cw_iconst 1 d_Shop_passDays_57 rfl ?_
      refine ev_iadd d_Shop_passDays_58 ?_
      obtain ⟨μ3, e_μ3, h⟩ := nm_some h
      refine cv_put (.inl (.int ((r2.2 9 j0 13) + 1))) ((r2.2 9 j0 13) + 1) hG okC hv0 fl_Shop_55_9 rfl rfl okv_int d_Shop_passDays_59 ?_
      intro G hG; rw [← e_μ3] at hG
      refine cw_iincN 4 1 [some (.inr (0, off 9 j0)), some (.inl (.int x1)), some (.inl (.int x2)), some (.inl (.int x3)), some (.inl (.int (x4 + 1)))] d_Shop_passDays_62 rfl rfl rfl rfl rfl ?_
      refine ev_goto (tgt := 33) (by decide) d_Shop_passDays_65 ?_
      exact kC _ (Option.some.inj h).symm G hG
set_option maxRecDepth 100000 in
set_option maxHeartbeats 4000000 in
theorem ws_Shop_passDays_7 {g : GL} {F G : RG} {nx mc ms : Nat} {Post : RO → RM → Prop} (d : Nat) {j0 : Nat} {x1 : Int32} {x2 : Int32} {x3 : Int32} {μ : Mem} (hv0 : vc 9 j0)  {o : (Int32 × Mem) ⊕ (Mem)} (hG : LM vc 0 535 μ F G) (h : s_Shop_passDays_7 j0 x1 x2 x3 μ = some o)
    (kC : ∀ s', o = .inl s' → ∀ G, LM vc 0 535 s'.2 F G → Ev g (d + 4) m_Shop_passDays 7 [some (.inr (0, off 9 j0)), some (.inl (.int x1)), some (.inl (.int x2)), some (.inl (.int s'.1)), none] [] (G, nx) mc ms Post)
    (kX : ∀ r, o = .inr r → ∀ G, LM vc 0 535 r F G → Ev g (d + 4) m_Shop_passDays 74 [some (.inr (0, off 9 j0)), none, some (.inl (.int x2)), none, none] [] (G, nx) mc ms Post)
    : Ev g (d + 4) m_Shop_passDays 7 [some (.inr (0, off 9 j0)), some (.inl (.int x1)), some (.inl (.int x2)), some (.inl (.int x3)), none] [] (G, nx) mc ms Post := by
  unfold s_Shop_passDays_7 at h
  refine ev_iload_n (k0 := 3) rfl d_Shop_passDays_7 ?_
  refine ev_iload_n (k0 := 1) rfl d_Shop_passDays_8 ?_
  refine ev_icmp_ge (tgt := 74) (by decide) d_Shop_passDays_9 (fun c => ?_) (fun c => ?_)
  · rw [if_pos c] at h
    exact Ev.sub (.s (.n (.s (.n (.n LSb.z))))) (kX _ (Option.some.inj h).symm G hG)
  · rw [if_neg c] at h
    refine ev_aload_n (k0 := 0) rfl d_Shop_passDays_12 ?_
    refine ev_dup rfl d_Shop_passDays_13 ?_
    refine cv_get9 (.inl (.int (μ 9 j0 1))) hG hv0 fg_Shop_9_9 rfl rfl d_Shop_passDays_14 ?_
    refine cw_iconst 1 d_Shop_passDays_17 rfl ?_
    refine ev_iadd d_Shop_passDays_18 ?_
    obtain ⟨μ1, e_μ1, h⟩ := nm_some h
    refine cv_put (.inl (.int ((μ 9 j0 1) + 1))) ((μ 9 j0 1) + 1) hG okC hv0 fl_Shop_9_9 rfl rfl okv_int d_Shop_passDays_19 ?_
    intro G hG; rw [← e_μ1] at hG
    refine ev_aload_n (k0 := 0) rfl d_Shop_passDays_22 ?_
    obtain ⟨r2, hr2, h⟩ := bind_some9 h
    refine Ev.z9 ?_
    refine cv_V (d := d + 3) (mc1 := 0) (ms1 := 0) (mc := mc) (ms := ms) [] hG hv0 rfl lk_Shop_225 (w_Shop_decideOverdue (d + 2) hv0 hG hr2) rfl rfl d_Shop_passDays_23 (aft_rw (fun G hG => ?_))
    refine Ev.at (pc' := 26) rfl (Ev.cong (st' := []) ?_ rfl rfl)
    refine ev_aload_n (k0 := 0) rfl d_Shop_passDays_26 ?_
    obtain ⟨r3, hr3, h⟩ := bind_some9 h
    refine Ev.z9 ?_
    refine cv_V (d := d + 3) (mc1 := 0) (ms1 := 0) (mc := mc) (ms := ms) [] hG hv0 rfl lk_Shop_228 (w_Shop_moveOwls (d + 2) hv0 hG hr3) rfl rfl d_Shop_passDays_27 (aft_rw (fun G hG => ?_))
    refine Ev.at (pc' := 30) rfl (Ev.cong (st' := []) ?_ rfl rfl)
    refine cw_iconst 0 d_Shop_passDays_30 rfl ?_
    refine cw_istoreN 4 0 rfl [some (.inr (0, off 9 j0)), some (.inl (.int x1)), some (.inl (.int x2)), some (.inl (.int x3)), some (.inl (.int 0))] d_Shop_passDays_31 rfl rfl rfl ?_
    obtain ⟨q4, hl, h⟩ := bind_some9 h
    refine it_ev (W := fun (s : Int32 × Mem) => ∀ G, LM vc 0 535 s.2 F G → Ev g (d + 4) m_Shop_passDays 33 [some (.inr (0, off 9 j0)), some (.inl (.int x1)), some (.inl (.int x2)), some (.inl (.int x3)), some (.inl (.int s.1))] [] (G, nx) mc ms Post) (X := fun z => z = q4) rfl (fun s9 o9 hs kC9 kX9 => ?_) LIM _ hl G hG
    intro G hG
    refine ws_Shop_passDays_33 d hv0 hG hs kC9 (fun r_ e G hG => ?_)
    · obtain rfl := (kX9 _ e).symm
      refine cw_iincN 3 1 [some (.inr (0, off 9 j0)), some (.inl (.int x1)), some (.inl (.int x2)), some (.inl (.int (x3 + 1))), none] d_Shop_passDays_68 rfl rfl rfl rfl rfl ?_
      refine ev_goto (tgt := 7) (by decide) d_Shop_passDays_71 ?_
      exact kC _ (Option.some.inj h).symm G hG
set_option maxRecDepth 100000 in
set_option maxHeartbeats 4000000 in
theorem w_Shop_passDays {g : GL} {F G : RG} {nx : Nat} (d : Nat) {j0 : Nat} {x1 : Int32} {μ : Mem} (hv0 : vc 9 j0)  {o : Int32 × Mem} (hG : LM vc 0 535 μ F G) (h : f_Shop_passDays j0 x1 μ = some o) : Mt g (d + 4) m_Shop_passDays [.inr (0, off 9 j0), .inl (.int x1)] (G, nx) 0 0 (pRW vc 0 535 (rI o.1) o.2 F nx) := by
  unfold f_Shop_passDays at h
  have kE : ∀ v, o = v → pRW vc 0 535 (rI o.1) o.2 F nx = pRW vc 0 535 (rI v.1) v.2 F nx := fun v e => by subst e; rfl
  refine Mt.of9 [some (.inr (0, off 9 j0)), some (.inl (.int x1)), none, none, none] (by decide +kernel) rfl rfl rfl rfl ?_
  refine ev_aload_n (k0 := 0) rfl d_Shop_passDays_0 ?_
  refine cv_get9 (.inl (.int (μ 9 j0 13))) hG hv0 fg_Shop_55_9 rfl rfl d_Shop_passDays_1 ?_
  obtain ⟨v1, e_v1, h⟩ := nm_some h
  refine cw_istoreN_n 2 v1 e_v1 [some (.inr (0, off 9 j0)), some (.inl (.int x1)), some (.inl (.int v1)), none, none] d_Shop_passDays_4 rfl rfl rfl ?_
  refine cw_iconst 0 d_Shop_passDays_5 rfl ?_
  refine cw_istoreN_n 3 0 rfl [some (.inr (0, off 9 j0)), some (.inl (.int x1)), some (.inl (.int v1)), some (.inl (.int 0)), none] d_Shop_passDays_6 rfl rfl rfl ?_
  obtain ⟨q2, hl, h⟩ := bind_some9 h
  refine it_ev (W := fun (s : Int32 × Mem) => ∀ G, LM vc 0 535 s.2 F G → Ev g (d + 4) m_Shop_passDays 7 [some (.inr (0, off 9 j0)), some (.inl (.int x1)), some (.inl (.int v1)), some (.inl (.int s.1)), none] [] (G, nx) 0 0 (pRW vc 0 535 (rI o.1) o.2 F nx)) (X := fun z => z = q2) rfl (fun s9 o9 hs kC9 kX9 => ?_) LIM _ hl G hG
  intro G hG
  refine ws_Shop_passDays_7 d hv0 hG hs kC9 (fun r_ e G hG => ?_)
  · obtain rfl := (kX9 _ e).symm
    refine ev_aload_n (k0 := 0) rfl d_Shop_passDays_74 ?_
    refine cv_get9 (.inl (.int (q2 9 j0 13))) hG hv0 fg_Shop_55_9 rfl rfl d_Shop_passDays_75 ?_
    refine ev_iload_n (k0 := 2) rfl d_Shop_passDays_78 ?_
    refine ev_isub d_Shop_passDays_79 ?_
    have hP := kE _ (Option.some.inj h).symm
    exact ev_ireturn (st := []) rfl rfl d_Shop_passDays_80 (by rw [hP]; exact ⟨rfl, hG, rfl⟩)

/-- ProphecyShop.advance -/
def f_P_advance (x1 : Int32) (μ : Mem) : Option (Int32 × Mem) :=
  ((f_Shop_faultOfDays 0 x1 μ)).bind (fun r1 => ((f_P_throwFor r1 μ)).bind (fun r2 => ((f_History_record 0 μ)).bind (fun r3 => ((f_Shop_passDays 0 x1 r3)).bind (fun r4 => some ((r4.1, r4.2))))))
set_option maxRecDepth 100000 in
set_option maxHeartbeats 4000000 in
theorem w_P_advance {g : GL} {F G : RG} {nx : Nat} (d : Nat) {x1 : Int32} {μ : Mem}   {o : Int32 × Mem} (hG : LM vc 0 535 μ F G) (h : f_P_advance x1 μ = some o) : Mt g (d + 5) m_P_advance [.inr (0, off 12 0), .inl (.int x1)] (G, nx) 0 0 (pRW vc 0 535 (rI o.1) o.2 F nx) := by
  unfold f_P_advance at h
  have kE : ∀ v, o = v → pRW vc 0 535 (rI o.1) o.2 F nx = pRW vc 0 535 (rI v.1) v.2 F nx := fun v e => by subst e; rfl
  refine Mt.of9 [some (.inr (0, off 12 0)), some (.inl (.int x1))] (by decide +kernel) rfl rfl rfl rfl ?_
  refine ev_aload_n (k0 := 0) rfl d_P_advance_0 ?_
  refine cv_get9 (.inr (0, off 9 0)) hG v_12 fg_ProphecyShop_47_12 rfl rfl d_P_advance_1 ?_
  refine ev_iload_n (k0 := 1) rfl d_P_advance_4 ?_
  obtain ⟨r1, hr1, h⟩ := bind_some9 h
  refine cv_V (d := d + 4) (mc1 := 0) (ms1 := 0) (mc := 0) (ms := 0) [.inl (.int x1)] hG (show vc 9 0 from (by decide : 0 < 12)) rfl lk_ProphecyShop_324 (w_Shop_faultOfDays (d + 3) (show vc 9 0 from (by decide : 0 < 12)) hG hr1) rfl rfl d_P_advance_5 (aft_ro ?_)
  refine Ev.at (pc' := 8) rfl (Ev.cong (st' := [.inl (.int r1)]) ?_ rfl rfl)
  obtain ⟨r2, hr2, h⟩ := bind_some9 h
  refine cw_S (d := d + 4) (mc1 := 0) (ms1 := 0) (mc := 0) (ms := 0) [.inl (.int r1)] lk_ProphecyShop_312 (w_P_throwFor (d + 4) hG hr2) rfl rfl d_P_advance_8 (aft_ro ?_)
  refine Ev.at (pc' := 11) rfl (Ev.cong (st' := []) ?_ rfl rfl)
  refine ev_aload_n (k0 := 0) rfl d_P_advance_11 ?_
  refine cv_get9 (.inr (0, off 2 0)) hG v_12 fg_ProphecyShop_57_12 rfl rfl d_P_advance_12 ?_
  refine ev_aload_n (k0 := 0) rfl d_P_advance_15 ?_
  refine cv_get9 (.inr (0, off 9 0)) hG v_12 fg_ProphecyShop_47_12 rfl rfl d_P_advance_16 ?_
  obtain ⟨r3, hr3, h⟩ := bind_some9 h
  refine cv_V (d := d + 4) (mc1 := 0) (ms1 := 0) (mc := 0) (ms := 0) [.inr (0, off 9 0)] hG v_2 rfl lk_ProphecyShop_138 (w_History_record (d + 2) (show vc 9 0 from (by decide : 0 < 12)) hG hr3) rfl rfl d_P_advance_19 (aft_rw (fun G hG => ?_))
  refine Ev.at (pc' := 22) rfl (Ev.cong (st' := []) ?_ rfl rfl)
  refine ev_aload_n (k0 := 0) rfl d_P_advance_22 ?_
  refine cv_get9 (.inr (0, off 9 0)) hG v_12 fg_ProphecyShop_47_12 rfl rfl d_P_advance_23 ?_
  refine ev_iload_n (k0 := 1) rfl d_P_advance_26 ?_
  obtain ⟨r4, hr4, h⟩ := bind_some9 h
  refine cv_V (d := d + 4) (mc1 := 0) (ms1 := 0) (mc := 0) (ms := 0) [.inl (.int x1)] hG (show vc 9 0 from (by decide : 0 < 12)) rfl lk_ProphecyShop_300 (w_Shop_passDays (d + 0) (show vc 9 0 from (by decide : 0 < 12)) hG hr4) rfl rfl d_P_advance_27 (aft_rw (fun G hG => ?_))
  refine Ev.at (pc' := 30) rfl (Ev.cong (st' := [.inl (.int r4.1)]) ?_ rfl rfl)
  have hP := kE _ (Option.some.inj h).symm
  exact ev_ireturn (st := []) rfl rfl d_P_advance_30 (by rw [hP]; exact ⟨rfl, hG, rfl⟩)

/-- ProphecyShop.throwIfMissing -/
def f_P_throwIfMissing (x0 : Int32) (μ : Mem) : Option (Unit) :=
  if x0 = 0 then (none) else (some (()))
set_option maxRecDepth 100000 in
set_option maxHeartbeats 4000000 in
theorem w_P_throwIfMissing {g : GL} {F G : RG} {nx : Nat} (d : Nat) {x0 : Int32} {μ : Mem}   {o : Unit} (hG : LM vc 0 535 μ F G) (h : f_P_throwIfMissing x0 μ = some o) : Mt g (d + 0) m_P_throwIfMissing [.inl (.int x0)] (G, nx) 0 0 (pRO rV (G, nx)) := by
  unfold f_P_throwIfMissing at h
  have kE : ∀ v, o = v → pRO rV (G, nx) = pRO rV (G, nx) := fun v e => by subst e; rfl
  refine Mt.of9 [some (.inl (.int x0))] (by decide +kernel) rfl rfl rfl rfl ?_
  refine ev_iload_n (k0 := 0) rfl d_P_throwIfMissing_0 ?_
  refine ev_if_ne (tgt := 15) (by decide) d_P_throwIfMissing_1 (fun c => ?_) (fun c => ?_)
  · rw [if_neg c] at h
    have hP := kE _ (Option.some.inj h).symm
    exact ev_return (st := []) rfl d_P_throwIfMissing_15 (by rw [hP]; exact ⟨rfl, rfl⟩)
  · rw [if_pos c] at h
    cases h

/-- ProphecyShop.prophecyWith -/
def f_P_prophecyWith (x1 : Int32) (μ : Mem) : Option (Nat) :=
  ((f_Shop_hasSold 0 x1 μ)).bind (fun r1 => ((f_P_throwIfMissing r1 μ)).bind (fun r2 => ((f_Shop_prophecyWith 0 x1 μ)).bind (fun r3 => chk (decide (r3 < 288)) (some r3))))
set_option maxRecDepth 100000 in
set_option maxHeartbeats 4000000 in
theorem w_P_prophecyWith {g : GL} {F G : RG} {nx : Nat} (d : Nat) {x1 : Int32} {μ : Mem}   {o : Nat} (hG : LM vc 0 535 μ F G) (h : f_P_prophecyWith x1 μ = some o) : Mt g (d + 2) m_P_prophecyWith [.inr (0, off 12 0), .inl (.int x1)] (G, nx) 0 0 (pRO ((rR 5) o) (G, nx)) := by
  unfold f_P_prophecyWith at h
  have kE : ∀ v, o = v → pRO ((rR 5) o) (G, nx) = pRO ((rR 5) v) (G, nx) := fun v e => by subst e; rfl
  refine Mt.of9 [some (.inr (0, off 12 0)), some (.inl (.int x1))] (by decide +kernel) rfl rfl rfl rfl ?_
  refine ev_aload_n (k0 := 0) rfl d_P_prophecyWith_0 ?_
  refine cv_get9 (.inr (0, off 9 0)) hG v_12 fg_ProphecyShop_47_12 rfl rfl d_P_prophecyWith_1 ?_
  refine ev_iload_n (k0 := 1) rfl d_P_prophecyWith_4 ?_
  obtain ⟨r1, hr1, h⟩ := bind_some9 h
  refine cv_V (d := d + 1) (mc1 := 0) (ms1 := 0) (mc := 0) (ms := 0) [.inl (.int x1)] hG (show vc 9 0 from (by decide : 0 < 12)) rfl lk_ProphecyShop_240 (w_Shop_hasSold (d + 1) (show vc 9 0 from (by decide : 0 < 12)) hG hr1) rfl rfl d_P_prophecyWith_5 (aft_ro ?_)
  refine Ev.at (pc' := 8) rfl (Ev.cong (st' := [.inl (.int r1)]) ?_ rfl rfl)
  obtain ⟨r2, hr2, h⟩ := bind_some9 h
  refine cw_S (d := d + 1) (mc1 := 0) (ms1 := 0) (mc := 0) (ms := 0) [.inl (.int r1)] lk_ProphecyShop_178 (w_P_throwIfMissing (d + 1) hG hr2) rfl rfl d_P_prophecyWith_8 (aft_ro ?_)
  refine Ev.at (pc' := 11) rfl (Ev.cong (st' := []) ?_ rfl rfl)
  refine ev_aload_n (k0 := 0) rfl d_P_prophecyWith_11 ?_
  refine cv_get9 (.inr (0, off 9 0)) hG v_12 fg_ProphecyShop_47_12 rfl rfl d_P_prophecyWith_12 ?_
  refine ev_iload_n (k0 := 1) rfl d_P_prophecyWith_15 ?_
  obtain ⟨r3, hr3, h⟩ := bind_some9 h
  refine cv_V (d := d + 1) (mc1 := 0) (ms1 := 0) (mc := 0) (ms := 0) [.inl (.int x1)] hG (show vc 9 0 from (by decide : 0 < 12)) rfl lk_ProphecyShop_299 (w_Shop_prophecyWith (d + 0) (show vc 9 0 from (by decide : 0 < 12)) hG hr3) rfl rfl d_P_prophecyWith_16 (aft_ro ?_)
  obtain ⟨b4, h⟩ := chk_some h
  refine Ev.at (pc' := 19) rfl (Ev.cong (st' := [.inr (0, off 5 r3)]) ?_ rfl rfl)
  have hP := kE _ (Option.some.inj h).symm
  exact ev_areturn (st := []) rfl (Or.inl ⟨_, rfl⟩) d_P_prophecyWith_19 (by rw [hP]; exact ⟨rfl, rfl⟩)

/-- ProphecyShop.answerFor -/
def f_P_answerFor (x1 : Int32) (μ : Mem) : Option (Int32) :=
  ((f_P_prophecyWith x1 μ)).bind (fun r1 => chk (decide (r1 < 288)) (some (μ 5 r1 9)))
set_option maxRecDepth 100000 in
set_option maxHeartbeats 4000000 in
theorem w_P_answerFor {g : GL} {F G : RG} {nx : Nat} (d : Nat) {x1 : Int32} {μ : Mem}   {o : Int32} (hG : LM vc 0 535 μ F G) (h : f_P_answerFor x1 μ = some o) : Mt g (d + 3) m_P_answerFor [.inr (0, off 12 0), .inl (.int x1)] (G, nx) 0 0 (pRO (rI o) (G, nx)) := by
  unfold f_P_answerFor at h
  have kE : ∀ v, o = v → pRO (rI o) (G, nx) = pRO (rI v) (G, nx) := fun v e => by subst e; rfl
  refine Mt.of9 [some (.inr (0, off 12 0)), some (.inl (.int x1))] (by decide +kernel) rfl rfl rfl rfl ?_
  refine ev_aload_n (k0 := 0) rfl d_P_answerFor_0 ?_
  refine ev_iload_n (k0 := 1) rfl d_P_answerFor_1 ?_
  obtain ⟨r1, hr1, h⟩ := bind_some9 h
  refine cv_V (d := d + 2) (mc1 := 0) (ms1 := 0) (mc := 0) (ms := 0) [.inl (.int x1)] hG v_12 rfl lk_ProphecyShop_198 (w_P_prophecyWith (d + 0) hG hr1) rfl rfl d_P_answerFor_2 (aft_ro ?_)
  obtain ⟨b2, h⟩ := chk_some h
  refine Ev.at (pc' := 5) rfl (Ev.cong (st' := [.inr (0, off 5 r1)]) ?_ rfl rfl)
  refine cv_get9 (.inl (.int (μ 5 r1 9))) hG (show vc 5 _ from dlt9 b2) fg_ProphecyShop_246_5 rfl rfl d_P_answerFor_5 ?_
  have hP := kE _ (Option.some.inj h).symm
  exact ev_ireturn (st := []) rfl rfl d_P_answerFor_8 (by rw [hP]; exact ⟨rfl, rfl⟩)

/-- ProphecyShop.append -/
def f_P_append (x1 : Int32) (x2 : Int32) (x3 : Int32) (x4 : Int32) (x5 : Int32) (μ : Mem) : Option (Int32 × Mem) :=
  ((f_Text_bytesIn x1 μ)).bind (fun r1 => ((f_Text_bytesIn x2 μ)).bind (fun r2 => ((f_Text_bytesIn x3 μ)).bind (fun r3 => ((f_Text_bytesIn x4 μ)).bind (fun r4 => ((f_Text_bytesIn x5 μ)).bind (fun r5 => nm ((((r1 + r2) + r3) + r4) + r5 : Int32) (fun v6 => ((f_Text_size μ)).bind (fun r7 => if (r7 + v6) ≤ 800 then (((f_Text_putBytesOf x1 μ)).bind (fun r8 => ((f_Text_putBytesOf x2 r8)).bind (fun r9 => ((f_Text_putBytesOf x3 r9)).bind (fun r10 => ((f_Text_putBytesOf x4 r10)).bind (fun r11 => ((f_Text_putBytesOf x5 r11)).bind (fun r12 => ((f_Text_size r12)).bind (fun r13 => some ((r13, r12))))))))) else (none))))))))
set_option maxRecDepth 100000 in
set_option maxHeartbeats 4000000 in
theorem w_P_append {g : GL} {F G : RG} {nx : Nat} (d : Nat) {x1 : Int32} {x2 : Int32} {x3 : Int32} {x4 : Int32} {x5 : Int32} {μ : Mem}   {o : Int32 × Mem} (hG : LM vc 0 535 μ F G) (h : f_P_append x1 x2 x3 x4 x5 μ = some o) : Mt g (d + 2) m_P_append [.inr (0, off 12 0), .inl (.int x1), .inl (.int x2), .inl (.int x3), .inl (.int x4), .inl (.int x5)] (G, nx) 0 0 (pRW vc 0 535 (rI o.1) o.2 F nx) := by
  unfold f_P_append at h
  have kE : ∀ v, o = v → pRW vc 0 535 (rI o.1) o.2 F nx = pRW vc 0 535 (rI v.1) v.2 F nx := fun v e => by subst e; rfl
  refine Mt.of9 [some (.inr (0, off 12 0)), some (.inl (.int x1)), some (.inl (.int x2)), some (.inl (.int x3)), some (.inl (.int x4)), some (.inl (.int x5)), none] (by decide +kernel) rfl rfl rfl rfl ?_
  refine ev_iload_n (k0 := 1) rfl d_P_append_0 ?_
  obtain ⟨r1, hr1, h⟩ := bind_some9 h
  refine cw_S (d := d + 1) (mc1 := 0) (ms1 := 0) (mc := 0) (ms := 0) [.inl (.int x1)] lk_ProphecyShop_101 (w_Text_bytesIn (d + 1) hG hr1) rfl rfl d_P_append_1 (aft_ro ?_)
  refine Ev.at (pc' := 4) rfl (Ev.cong (st' := [.inl (.int r1)]) ?_ rfl rfl)
  refine ev_iload_n (k0 := 2) rfl d_P_append_4 ?_
  obtain ⟨r2, hr2, h⟩ := bind_some9 h
  refine cw_S (d := d + 1) (mc1 := 0) (ms1 := 0) (mc := 0) (ms := 0) [.inl (.int x2)] lk_ProphecyShop_101 (w_Text_bytesIn (d + 1) hG hr2) rfl rfl d_P_append_5 (aft_ro ?_)
  refine Ev.at (pc' := 8) rfl (Ev.cong (st' := [.inl (.int r2), .inl (.int r1)]) ?_ rfl rfl)
  refine ev_iadd d_P_append_8 ?_
  refine ev_iload_n (k0 := 3) rfl d_P_append_9 ?_
  obtain ⟨r3, hr3, h⟩ := bind_some9 h
  refine cw_S (d := d + 1) (mc1 := 0) (ms1 := 0) (mc := 0) (ms := 0) [.inl (.int x3)] lk_ProphecyShop_101 (w_Text_bytesIn (d + 1) hG hr3) rfl rfl d_P_append_10 (aft_ro ?_)
  refine Ev.at (pc' := 13) rfl (Ev.cong (st' := [.inl (.int r3), .inl (.int (r1 + r2))]) ?_ rfl rfl)
  refine ev_iadd d_P_append_13 ?_
  refine ev_iload (i := 4) rfl d_P_append_14 ?_
  obtain ⟨r4, hr4, h⟩ := bind_some9 h
  refine cw_S (d := d + 1) (mc1 := 0) (ms1 := 0) (mc := 0) (ms := 0) [.inl (.int x4)] lk_ProphecyShop_101 (w_Text_bytesIn (d + 1) hG hr4) rfl rfl d_P_append_16 (aft_ro ?_)
  refine Ev.at (pc' := 19) rfl (Ev.cong (st' := [.inl (.int r4), .inl (.int ((r1 + r2) + r3))]) ?_ rfl rfl)
  refine ev_iadd d_P_append_19 ?_
  refine ev_iload (i := 5) rfl d_P_append_20 ?_
  obtain ⟨r5, hr5, h⟩ := bind_some9 h
  refine cw_S (d := d + 1) (mc1 := 0) (ms1 := 0) (mc := 0) (ms := 0) [.inl (.int x5)] lk_ProphecyShop_101 (w_Text_bytesIn (d + 1) hG hr5) rfl rfl d_P_append_22 (aft_ro ?_)
  refine Ev.at (pc' := 25) rfl (Ev.cong (st' := [.inl (.int r5), .inl (.int (((r1 + r2) + r3) + r4))]) ?_ rfl rfl)
  refine ev_iadd d_P_append_25 ?_
  obtain ⟨v6, e_v6, h⟩ := nm_some h
  refine cw_istoreN 6 v6 e_v6 [some (.inr (0, off 12 0)), some (.inl (.int x1)), some (.inl (.int x2)), some (.inl (.int x3)), some (.inl (.int x4)), some (.inl (.int x5)), some (.inl (.int v6))] d_P_append_26 rfl rfl rfl ?_
  refine ev_aload_n (k0 := 0) rfl d_P_append_28 ?_
  refine cv_get9 (.inr (0, off 11 0)) hG v_12 fg_ProphecyShop_10_12 rfl rfl d_P_append_29 ?_
  obtain ⟨r7, hr7, h⟩ := bind_some9 h
  refine cv_V (d := d + 1) (mc1 := 0) (ms1 := 0) (mc := 0) (ms := 0) [] hG v_11 rfl lk_ProphecyShop_105 (w_Text_size (d + 1) hG hr7) rfl rfl d_P_append_32 (aft_ro ?_)
  refine Ev.at (pc' := 35) rfl (Ev.cong (st' := [.inl (.int r7)]) ?_ rfl rfl)
  refine ev_iload (i := 6) rfl d_P_append_35 ?_
  refine ev_iadd d_P_append_37 ?_
  refine cw_sipush 800 d_P_append_38 rfl ?_
  refine ev_icmp_le (tgt := 54) (by decide) d_P_append_41 (fun c => ?_) (fun c => ?_)
  · rw [if_pos c] at h
    refine ev_aload_n (k0 := 0) rfl d_P_append_54 ?_
    refine cv_get9 (.inr (0, off 11 0)) hG v_12 fg_ProphecyShop_10_12 rfl rfl d_P_append_55 ?_
    refine ev_iload_n (k0 := 1) rfl d_P_append_58 ?_
    obtain ⟨r8, hr8, h⟩ := bind_some9 h
    refine cv_V (d := d + 1) (mc1 := 0) (ms1 := 0) (mc := 0) (ms := 0) [.inl (.int x1)] hG v_11 rfl lk_ProphecyShop_115 (w_Text_putBytesOf (d + 0) hG hr8) rfl rfl d_P_append_59 (aft_rw (fun G hG => ?_))
    refine Ev.at (pc' := 62) rfl (Ev.cong (st' := []) ?_ rfl rfl)
    refine ev_aload_n (k0 := 0) rfl d_P_append_62 ?_
    refine cv_get9 (.inr (0, off 11 0)) hG v_12 fg_ProphecyShop_10_12 rfl rfl d_P_append_63 ?_
    refine ev_iload_n (k0 := 2) rfl d_P_append_66 ?_
    obtain ⟨r9, hr9, h⟩ := bind_some9 h
    refine cv_V (d := d + 1) (mc1 := 0) (ms1 := 0) (mc := 0) (ms := 0) [.inl (.int x2)] hG v_11 rfl lk_ProphecyShop_115 (w_Text_putBytesOf (d + 0) hG hr9) rfl rfl d_P_append_67 (aft_rw (fun G hG => ?_))
    refine Ev.at (pc' := 70) rfl (Ev.cong (st' := []) ?_ rfl rfl)
    refine ev_aload_n (k0 := 0) rfl d_P_append_70 ?_
    refine cv_get9 (.inr (0, off 11 0)) hG v_12 fg_ProphecyShop_10_12 rfl rfl d_P_append_71 ?_
    refine ev_iload_n (k0 := 3) rfl d_P_append_74 ?_
    obtain ⟨r10, hr10, h⟩ := bind_some9 h
    refine cv_V (d := d + 1) (mc1 := 0) (ms1 := 0) (mc := 0) (ms := 0) [.inl (.int x3)] hG v_11 rfl lk_ProphecyShop_115 (w_Text_putBytesOf (d + 0) hG hr10) rfl rfl d_P_append_75 (aft_rw (fun G hG => ?_))
    refine Ev.at (pc' := 78) rfl (Ev.cong (st' := []) ?_ rfl rfl)
    refine ev_aload_n (k0 := 0) rfl d_P_append_78 ?_
    refine cv_get9 (.inr (0, off 11 0)) hG v_12 fg_ProphecyShop_10_12 rfl rfl d_P_append_79 ?_
    refine ev_iload (i := 4) rfl d_P_append_82 ?_
    obtain ⟨r11, hr11, h⟩ := bind_some9 h
    refine cv_V (d := d + 1) (mc1 := 0) (ms1 := 0) (mc := 0) (ms := 0) [.inl (.int x4)] hG v_11 rfl lk_ProphecyShop_115 (w_Text_putBytesOf (d + 0) hG hr11) rfl rfl d_P_append_84 (aft_rw (fun G hG => ?_))
    refine Ev.at (pc' := 87) rfl (Ev.cong (st' := []) ?_ rfl rfl)
    refine ev_aload_n (k0 := 0) rfl d_P_append_87 ?_
    refine cv_get9 (.inr (0, off 11 0)) hG v_12 fg_ProphecyShop_10_12 rfl rfl d_P_append_88 ?_
    refine ev_iload (i := 5) rfl d_P_append_91 ?_
    obtain ⟨r12, hr12, h⟩ := bind_some9 h
    refine cv_V (d := d + 1) (mc1 := 0) (ms1 := 0) (mc := 0) (ms := 0) [.inl (.int x5)] hG v_11 rfl lk_ProphecyShop_115 (w_Text_putBytesOf (d + 0) hG hr12) rfl rfl d_P_append_93 (aft_rw (fun G hG => ?_))
    refine Ev.at (pc' := 96) rfl (Ev.cong (st' := []) ?_ rfl rfl)
    refine ev_aload_n (k0 := 0) rfl d_P_append_96 ?_
    refine cv_get9 (.inr (0, off 11 0)) hG v_12 fg_ProphecyShop_10_12 rfl rfl d_P_append_97 ?_
    obtain ⟨r13, hr13, h⟩ := bind_some9 h
    refine cv_V (d := d + 1) (mc1 := 0) (ms1 := 0) (mc := 0) (ms := 0) [] hG v_11 rfl lk_ProphecyShop_105 (w_Text_size (d + 1) hG hr13) rfl rfl d_P_append_100 (aft_ro ?_)
    refine Ev.at (pc' := 103) rfl (Ev.cong (st' := [.inl (.int r13)]) ?_ rfl rfl)
    have hP := kE _ (Option.some.inj h).symm
    exact ev_ireturn (st := []) rfl rfl d_P_append_103 (by rw [hP]; exact ⟨rfl, hG, rfl⟩)
  · rw [if_neg c] at h
    cases h

/-- ProphecyShop$Shop.requestsBefore -/
def s_Shop_requestsBefore_2 (j0 : Nat) (x1 : Int32) (x2 : Int32) (μ : Mem) : Option ((Int32) ⊕ ((Unit) ⊕ (Int32))) :=
  if (μ 9 j0 8) ≤ x2 then (some (.inr (.inl (())))) else (chk (inb x2 24) (if (μ 30 j0 x2.toNatClampNeg) = x1 then (some (.inr (.inr x2))) else (some (.inl (x2 + 1)))))
def f_Shop_requestsBefore (j0 : Nat) (x1 : Int32) (μ : Mem) : Option (Int32) :=
  (it (fun (s : Int32) => s_Shop_requestsBefore_2 j0 x1 s μ) LIM 0).bind (fun q1 => els q1 (fun r2 => some ((-1))) (fun v => some v))
set_option maxRecDepth 100000 in
set_option maxHeartbeats 4000000 in
theorem ws_Shop_requestsBefore_2 {g : GL} {F G : RG} {nx mc ms : Nat} {Post : RO → RM → Prop} (d : Nat) {j0 : Nat} {x1 : Int32} {x2 : Int32} {μ : Mem} (hv0 : vc 9 j0)  {o : (Int32) ⊕ ((Unit) ⊕ (Int32))} (hG : LM vc 0 535 μ F G) (h : s_Shop_requestsBefore_2 j0 x1 x2 μ = some o)
    (kC : ∀ s', o = .inl s' → Ev g (d + 0) m_Shop_requestsBefore 2 [some (.inr (0, off 9 j0)), some (.inl (.int x1)), some (.inl (.int s'))] [] (G, nx) mc ms Post)
    (kX : ∀ r, o = .inr (.inl r) → Ev g (d + 0) m_Shop_requestsBefore 28 [none, none, none] [] (G, nx) mc ms Post)
    (kE : ∀ v, o = .inr (.inr v) → Post = pRO (rI v) (G, nx)) : Ev g (d + 0) m_Shop_requestsBefore 2 [some (.inr (0, off 9 j0)), some (.inl (.int x1)), some (.inl (.int x2))] [] (G, nx) mc ms Post := by
  unfold s_Shop_requestsBefore_2 at h
  refine ev_iload_n (k0 := 2) rfl d_Shop_requestsBefore_2 ?_
  refine ev_aload_n (k0 := 0) rfl d_Shop_requestsBefore_3 ?_
  refine cv_get9 (.inl (.int (μ 9 j0 8))) hG hv0 fg_Shop_40_9 rfl rfl d_Shop_requestsBefore_4 ?_
  refine ev_icmp_ge (tgt := 28) (by decide) d_Shop_requestsBefore_7 (fun c => ?_) (fun c => ?_)
  · rw [if_pos c] at h
    exact Ev.sub (.n (.n (.n LSb.z))) (kX _ (Option.some.inj h).symm)
  · rw [if_neg c] at h
    refine ev_aload_n (k0 := 0) rfl d_Shop_requestsBefore_10 ?_
    refine cv_get9 (.inr (0, off 30 j0)) hG hv0 fg_Shop_37_9 rfl rfl d_Shop_requestsBefore_11 ?_
    refine ev_iload_n (k0 := 2) rfl d_Shop_requestsBefore_14 ?_
    obtain ⟨b1, h⟩ := chk_some h
    refine cv_iald hG (tv_9_7 hv0) rfl rfl b1 rfl d_Shop_requestsBefore_15 ?_
    refine ev_iload_n (k0 := 1) rfl d_Shop_requestsBefore_16 ?_
    refine ev_icmp_ne (tgt := 22) (by decide) d_Shop_requestsBefore_17 (fun c => ?_) (fun c => ?_)
    · rw [if_neg c] at h
      refine cw_iincN 2 1 [some (.inr (0, off 9 j0)), some (.inl (.int x1)), some (.inl (.int (x2 + 1)))] d_Shop_requestsBefore_22 rfl rfl rfl rfl rfl ?_
      refine ev_goto (tgt := 2) (by decide) d_Shop_requestsBefore_25 ?_
      exact kC _ (Option.some.inj h).symm
    · rw [if_pos c] at h
      refine ev_iload_n (k0 := 2) rfl d_Shop_requestsBefore_20 ?_
      have hP := kE _ (Option.some.inj h).symm
      exact ev_ireturn (st := []) rfl rfl d_Shop_requestsBefore_21 (by rw [hP]; exact ⟨rfl, rfl⟩)
set_option maxRecDepth 100000 in
set_option maxHeartbeats 4000000 in
theorem w_Shop_requestsBefore {g : GL} {F G : RG} {nx : Nat} (d : Nat) {j0 : Nat} {x1 : Int32} {μ : Mem} (hv0 : vc 9 j0)  {o : Int32} (hG : LM vc 0 535 μ F G) (h : f_Shop_requestsBefore j0 x1 μ = some o) : Mt g (d + 0) m_Shop_requestsBefore [.inr (0, off 9 j0), .inl (.int x1)] (G, nx) 0 0 (pRO (rI o) (G, nx)) := by
  unfold f_Shop_requestsBefore at h
  have kE : ∀ v, o = v → pRO (rI o) (G, nx) = pRO (rI v) (G, nx) := fun v e => by subst e; rfl
  refine Mt.of9 [some (.inr (0, off 9 j0)), some (.inl (.int x1)), none] (by decide +kernel) rfl rfl rfl rfl ?_
  refine cw_iconst 0 d_Shop_requestsBefore_0 rfl ?_
  refine cw_istoreN_n 2 0 rfl [some (.inr (0, off 9 j0)), some (.inl (.int x1)), some (.inl (.int 0))] d_Shop_requestsBefore_1 rfl rfl rfl ?_
  obtain ⟨q1, hl, h⟩ := bind_some9 h
  refine it_ev (W := fun (s : Int32) => Ev g (d + 0) m_Shop_requestsBefore 2 [some (.inr (0, off 9 j0)), some (.inl (.int x1)), some (.inl (.int s))] [] (G, nx) 0 0 (pRO (rI o) (G, nx))) (X := fun z => z = q1) rfl (fun s9 o9 hs kC9 kX9 => ?_) LIM _ hl
  refine ws_Shop_requestsBefore_2 d hv0 hG hs kC9 (fun r2 e => ?_) (fun v e => ?_)
  · obtain rfl := kX9 _ e
    rw [els_l] at h
    refine cw_iconst (-1) d_Shop_requestsBefore_28 rfl ?_
    have hP := kE _ (Option.some.inj h).symm
    exact ev_ireturn (st := []) rfl rfl d_Shop_requestsBefore_29 (by rw [hP]; exact ⟨rfl, rfl⟩)
  · obtain rfl := kX9 _ e
    rw [els_r] at h
    exact kE _ (Option.some.inj h).symm

/-- ProphecyShop$Shop.faultOfRequest -/
def f_Shop_faultOfRequest (j0 : Nat) (x1 : Int32) (μ : Mem) : Option (Int32) :=
  ((f_Shop_hasSold j0 x1 μ)).bind (fun r1 => if r1 = 0 then some 1 else (((f_Shop_requestsBefore j0 x1 μ)).bind (fun r2 => if r2 = ((-1)) then some 0 else (some 3))))
set_option maxRecDepth 100000 in
set_option maxHeartbeats 4000000 in
theorem w_Shop_faultOfRequest {g : GL} {F G : RG} {nx : Nat} (d : Nat) {j0 : Nat} {x1 : Int32} {μ : Mem} (hv0 : vc 9 j0)  {o : Int32} (hG : LM vc 0 535 μ F G) (h : f_Shop_faultOfRequest j0 x1 μ = some o) : Mt g (d + 1) m_Shop_faultOfRequest [.inr (0, off 9 j0), .inl (.int x1)] (G, nx) 0 0 (pRO (rI o) (G, nx)) := by
  unfold f_Shop_faultOfRequest at h
  have kE : ∀ v, o = v → pRO (rI o) (G, nx) = pRO (rI v) (G, nx) := fun v e => by subst e; rfl
  refine Mt.of9 [some (.inr (0, off 9 j0)), some (.inl (.int x1))] (by decide +kernel) rfl rfl rfl rfl ?_
  refine ev_aload_n (k0 := 0) rfl d_Shop_faultOfRequest_0 ?_
  refine ev_iload_n (k0 := 1) rfl d_Shop_faultOfRequest_1 ?_
  obtain ⟨r1, hr1, h⟩ := bind_some9 h
  refine cv_V (d := d + 0) (mc1 := 0) (ms1 := 0) (mc := 0) (ms := 0) [.inl (.int x1)] hG hv0 rfl lk_Shop_90 (w_Shop_hasSold (d + 0) hv0 hG hr1) rfl rfl d_Shop_faultOfRequest_2 (aft_ro ?_)
  refine Ev.at (pc' := 5) rfl (Ev.cong (st' := [.inl (.int r1)]) ?_ rfl rfl)
  refine ev_if_ne (tgt := 10) (by decide) d_Shop_faultOfRequest_5 (fun c => ?_) (fun c => ?_)
  · rw [if_neg c] at h
    refine ev_aload_n (k0 := 0) rfl d_Shop_faultOfRequest_10 ?_
    refine ev_iload_n (k0 := 1) rfl d_Shop_faultOfRequest_11 ?_
    obtain ⟨r2, hr2, h⟩ := bind_some9 h
    refine cv_V (d := d + 0) (mc1 := 0) (ms1 := 0) (mc := 0) (ms := 0) [.inl (.int x1)] hG hv0 rfl lk_Shop_178 (w_Shop_requestsBefore (d + 0) hv0 hG hr2) rfl rfl d_Shop_faultOfRequest_12 (aft_ro ?_)
    refine Ev.at (pc' := 15) rfl (Ev.cong (st' := [.inl (.int r2)]) ?_ rfl rfl)
    refine cw_iconst (-1) d_Shop_faultOfRequest_15 rfl ?_
    refine ev_icmp_eq (tgt := 23) (by decide) d_Shop_faultOfRequest_16 (fun c => ?_) (fun c => ?_)
    · rw [if_pos c] at h
      refine cw_iconst 0 d_Shop_faultOfRequest_23 rfl ?_
      have hP := kE _ (Option.some.inj h).symm
      exact ev_ireturn (st := []) rfl rfl d_Shop_faultOfRequest_24 (by rw [hP]; exact ⟨rfl, rfl⟩)
    · rw [if_neg c] at h
      refine cw_iconst 3 d_Shop_faultOfRequest_19 rfl ?_
      refine ev_goto (tgt := 24) (by decide) d_Shop_faultOfRequest_20 ?_
      have hP := kE _ (Option.some.inj h).symm
      exact ev_ireturn (st := []) rfl rfl d_Shop_faultOfRequest_24 (by rw [hP]; exact ⟨rfl, rfl⟩)
  · rw [if_pos c] at h
    refine cw_iconst 1 d_Shop_faultOfRequest_8 rfl ?_
    have hP := kE _ (Option.some.inj h).symm
    exact ev_ireturn (st := []) rfl rfl d_Shop_faultOfRequest_9 (by rw [hP]; exact ⟨rfl, rfl⟩)

/-- ProphecyShop$Shop.addRequest -/
def f_Shop_addRequest (j0 : Nat) (x1 : Int32) (μ : Mem) : Option (Int32 × Mem) :=
  if (24 : Int32) ≤ (μ 9 j0 8) then (some ((μ 9 j0 8, μ))) else (chk (inb (μ 9 j0 8) 24) (nm (st3 μ 30 j0 (μ 9 j0 8).toNatClampNeg x1) (fun μ2 => nm (st3 μ2 9 j0 8 ((μ2 9 j0 8) + 1)) (fun μ3 => some ((μ3 9 j0 8, μ3))))))
set_option maxRecDepth 100000 in
set_option maxHeartbeats 4000000 in
theorem w_Shop_addRequest {g : GL} {F G : RG} {nx : Nat} (d : Nat) {j0 : Nat} {x1 : Int32} {μ : Mem} (hv0 : vc 9 j0)  {o : Int32 × Mem} (hG : LM vc 0 535 μ F G) (h : f_Shop_addRequest j0 x1 μ = some o) : Mt g (d + 0) m_Shop_addRequest [.inr (0, off 9 j0), .inl (.int x1)] (G, nx) 0 0 (pRW vc 0 535 (rI o.1) o.2 F nx) := by
  unfold f_Shop_addRequest at h
  have kE : ∀ v, o = v → pRW vc 0 535 (rI o.1) o.2 F nx = pRW vc 0 535 (rI v.1) v.2 F nx := fun v e => by subst e; rfl
  refine Mt.of9 [some (.inr (0, off 9 j0)), some (.inl (.int x1))] (by decide +kernel) rfl rfl rfl rfl ?_
  refine ev_aload_n (k0 := 0) rfl d_Shop_addRequest_0 ?_
  refine cv_get9 (.inl (.int (μ 9 j0 8))) hG hv0 fg_Shop_40_9 rfl rfl d_Shop_addRequest_1 ?_
  refine cw_bipush 24 d_Shop_addRequest_4 rfl ?_
  refine ev_icmp_ge (tgt := 29) (by decide) d_Shop_addRequest_6 (fun c => ?_) (fun c => ?_)
  · rw [if_pos c] at h
    refine ev_aload_n (k0 := 0) rfl d_Shop_addRequest_29 ?_
    refine cv_get9 (.inl (.int (μ 9 j0 8))) hG hv0 fg_Shop_40_9 rfl rfl d_Shop_addRequest_30 ?_
    have hP := kE _ (Option.some.inj h).symm
    exact ev_ireturn (st := []) rfl rfl d_Shop_addRequest_33 (by rw [hP]; exact ⟨rfl, hG, rfl⟩)
  · rw [if_neg c] at h
    refine ev_aload_n (k0 := 0) rfl d_Shop_addRequest_9 ?_
    refine cv_get9 (.inr (0, off 30 j0)) hG hv0 fg_Shop_37_9 rfl rfl d_Shop_addRequest_10 ?_
    refine ev_aload_n (k0 := 0) rfl d_Shop_addRequest_13 ?_
    refine cv_get9 (.inl (.int (μ 9 j0 8))) hG hv0 fg_Shop_40_9 rfl rfl d_Shop_addRequest_14 ?_
    refine ev_iload_n (k0 := 1) rfl d_Shop_addRequest_17 ?_
    obtain ⟨b1, h⟩ := chk_some h
    obtain ⟨μ2, e_μ2, h⟩ := nm_some h
    refine cv_iast hG okC (tv_9_7 hv0) rfl rfl b1 rfl d_Shop_addRequest_18 ?_
    intro G hG; rw [← e_μ2] at hG
    refine ev_aload_n (k0 := 0) rfl d_Shop_addRequest_19 ?_
    refine ev_dup rfl d_Shop_addRequest_20 ?_
    refine cv_get9 (.inl (.int (μ2 9 j0 8))) hG hv0 fg_Shop_40_9 rfl rfl d_Shop_addRequest_21 ?_
    refine cw_iconst 1 d_Shop_addRequest_24 rfl ?_
    refine ev_iadd d_Shop_addRequest_25 ?_
    refine Ev.at (pc' := 26) rfl ?_
    obtain ⟨μ3, e_μ3, h⟩ := nm_some h
    refine cv_put (.inl (.int ((μ2 9 j0 8) + 1))) ((μ2 9 j0 8) + 1) hG okC hv0 fl_Shop_40_9 rfl rfl okv_int d_Shop_addRequest_26 ?_
    intro G hG; rw [← e_μ3] at hG
    refine ev_aload_n (k0 := 0) rfl d_Shop_addRequest_29 ?_
    refine cv_get9 (.inl (.int (μ3 9 j0 8))) hG hv0 fg_Shop_40_9 rfl rfl d_Shop_addRequest_30 ?_
    have hP := kE _ (Option.some.inj h).symm
    exact ev_ireturn (st := []) rfl rfl d_Shop_addRequest_33 (by rw [hP]; exact ⟨rfl, hG, rfl⟩)

/-- ProphecyShop.ask -/
def f_P_ask (x1 : Int32) (μ : Mem) : Option (Int32 × Mem) :=
  ((f_Shop_faultOfRequest 0 x1 μ)).bind (fun r1 => ((f_P_throwFor r1 μ)).bind (fun r2 => ((f_History_record 0 μ)).bind (fun r3 => ((f_Shop_addRequest 0 x1 r3)).bind (fun r4 => some ((r4.1, r4.2))))))
set_option maxRecDepth 100000 in
set_option maxHeartbeats 4000000 in
theorem w_P_ask {g : GL} {F G : RG} {nx : Nat} (d : Nat) {x1 : Int32} {μ : Mem}   {o : Int32 × Mem} (hG : LM vc 0 535 μ F G) (h : f_P_ask x1 μ = some o) : Mt g (d + 3) m_P_ask [.inr (0, off 12 0), .inl (.int x1)] (G, nx) 0 0 (pRW vc 0 535 (rI o.1) o.2 F nx) := by
  unfold f_P_ask at h
  have kE : ∀ v, o = v → pRW vc 0 535 (rI o.1) o.2 F nx = pRW vc 0 535 (rI v.1) v.2 F nx := fun v e => by subst e; rfl
  refine Mt.of9 [some (.inr (0, off 12 0)), some (.inl (.int x1))] (by decide +kernel) rfl rfl rfl rfl ?_
  refine ev_aload_n (k0 := 0) rfl d_P_ask_0 ?_
  refine cv_get9 (.inr (0, off 9 0)) hG v_12 fg_ProphecyShop_47_12 rfl rfl d_P_ask_1 ?_
  refine ev_iload_n (k0 := 1) rfl d_P_ask_4 ?_
  obtain ⟨r1, hr1, h⟩ := bind_some9 h
  refine cv_V (d := d + 2) (mc1 := 0) (ms1 := 0) (mc := 0) (ms := 0) [.inl (.int x1)] hG (show vc 9 0 from (by decide : 0 < 12)) rfl lk_ProphecyShop_318 (w_Shop_faultOfRequest (d + 1) (show vc 9 0 from (by decide : 0 < 12)) hG hr1) rfl rfl d_P_ask_5 (aft_ro ?_)
  refine Ev.at (pc' := 8) rfl (Ev.cong (st' := [.inl (.int r1)]) ?_ rfl rfl)
  obtain ⟨r2, hr2, h⟩ := bind_some9 h
  refine cw_S (d := d + 2) (mc1 := 0) (ms1 := 0) (mc := 0) (ms := 0) [.inl (.int r1)] lk_ProphecyShop_312 (w_P_throwFor (d + 2) hG hr2) rfl rfl d_P_ask_8 (aft_ro ?_)
  refine Ev.at (pc' := 11) rfl (Ev.cong (st' := []) ?_ rfl rfl)
  refine ev_aload_n (k0 := 0) rfl d_P_ask_11 ?_
  refine cv_get9 (.inr (0, off 2 0)) hG v_12 fg_ProphecyShop_57_12 rfl rfl d_P_ask_12 ?_
  refine ev_aload_n (k0 := 0) rfl d_P_ask_15 ?_
  refine cv_get9 (.inr (0, off 9 0)) hG v_12 fg_ProphecyShop_47_12 rfl rfl d_P_ask_16 ?_
  obtain ⟨r3, hr3, h⟩ := bind_some9 h
  refine cv_V (d := d + 2) (mc1 := 0) (ms1 := 0) (mc := 0) (ms := 0) [.inr (0, off 9 0)] hG v_2 rfl lk_ProphecyShop_138 (w_History_record (d + 0) (show vc 9 0 from (by decide : 0 < 12)) hG hr3) rfl rfl d_P_ask_19 (aft_rw (fun G hG => ?_))
  refine Ev.at (pc' := 22) rfl (Ev.cong (st' := []) ?_ rfl rfl)
  refine ev_aload_n (k0 := 0) rfl d_P_ask_22 ?_
  refine cv_get9 (.inr (0, off 9 0)) hG v_12 fg_ProphecyShop_47_12 rfl rfl d_P_ask_23 ?_
  refine ev_iload_n (k0 := 1) rfl d_P_ask_26 ?_
  obtain ⟨r4, hr4, h⟩ := bind_some9 h
  refine cv_V (d := d + 2) (mc1 := 0) (ms1 := 0) (mc := 0) (ms := 0) [.inl (.int x1)] hG (show vc 9 0 from (by decide : 0 < 12)) rfl lk_ProphecyShop_321 (w_Shop_addRequest (d + 2) (show vc 9 0 from (by decide : 0 < 12)) hG hr4) rfl rfl d_P_ask_27 (aft_rw (fun G hG => ?_))
  refine Ev.at (pc' := 30) rfl (Ev.cong (st' := [.inl (.int r4.1)]) ?_ rfl rfl)
  have hP := kE _ (Option.some.inj h).symm
  exact ev_ireturn (st := []) rfl rfl d_P_ask_30 (by rw [hP]; exact ⟨rfl, hG, rfl⟩)

/-- ProphecyShop.cash -/
def f_P_cash  (μ : Mem) : Option (Int32) :=
  some (μ 9 0 2)
set_option maxRecDepth 100000 in
set_option maxHeartbeats 4000000 in
theorem w_P_cash {g : GL} {F G : RG} {nx : Nat} (d : Nat)  {μ : Mem}   {o : Int32} (hG : LM vc 0 535 μ F G) (h : f_P_cash  μ = some o) : Mt g (d + 0) m_P_cash [.inr (0, off 12 0)] (G, nx) 0 0 (pRO (rI o) (G, nx)) := by
  unfold f_P_cash at h
  have kE : ∀ v, o = v → pRO (rI o) (G, nx) = pRO (rI v) (G, nx) := fun v e => by subst e; rfl
  refine Mt.of9 [some (.inr (0, off 12 0))] (by decide +kernel) rfl rfl rfl rfl ?_
  refine ev_aload_n (k0 := 0) rfl d_P_cash_0 ?_
  refine cv_get9 (.inr (0, off 9 0)) hG v_12 fg_ProphecyShop_47_12 rfl rfl d_P_cash_1 ?_
  refine cv_get9 (.inl (.int (μ 9 0 2))) hG (show vc 9 0 from (by decide : 0 < 12)) fg_ProphecyShop_149_9 rfl rfl d_P_cash_4 ?_
  have hP := kE _ (Option.some.inj h).symm
  exact ev_ireturn (st := []) rfl rfl d_P_cash_7 (by rw [hP]; exact ⟨rfl, rfl⟩)

/-- ProphecyShop.cashAfter -/
def f_P_cashAfter (x1 : Int32) (μ : Mem) : Option (Int32 × Mem) :=
  ((f_P_isWithin x1 0 300 μ)).bind (fun r1 => if r1 = 0 then (none) else (((f_Shop_copyFrom 1 0 μ)).bind (fun r2 => ((f_Shop_passDays 1 x1 r2)).bind (fun r3 => some ((r3.2 9 1 2, r3.2))))))
set_option maxRecDepth 100000 in
set_option maxHeartbeats 4000000 in
theorem w_P_cashAfter {g : GL} {F G : RG} {nx : Nat} (d : Nat) {x1 : Int32} {μ : Mem}   {o : Int32 × Mem} (hG : LM vc 0 535 μ F G) (h : f_P_cashAfter x1 μ = some o) : Mt g (d + 5) m_P_cashAfter [.inr (0, off 12 0), .inl (.int x1)] (G, nx) 0 0 (pRW vc 0 535 (rI o.1) o.2 F nx) := by
  unfold f_P_cashAfter at h
  have kE : ∀ v, o = v → pRW vc 0 535 (rI o.1) o.2 F nx = pRW vc 0 535 (rI v.1) v.2 F nx := fun v e => by subst e; rfl
  refine Mt.of9 [some (.inr (0, off 12 0)), some (.inl (.int x1))] (by decide +kernel) rfl rfl rfl rfl ?_
  refine ev_iload_n (k0 := 1) rfl d_P_cashAfter_0 ?_
  refine cw_iconst 0 d_P_cashAfter_1 rfl ?_
  refine cw_sipush 300 d_P_cashAfter_2 rfl ?_
  obtain ⟨r1, hr1, h⟩ := bind_some9 h
  refine cw_S (d := d + 4) (mc1 := 0) (ms1 := 0) (mc := 0) (ms := 0) [.inl (.int x1), .inl (.int 0), .inl (.int 300)] lk_ProphecyShop_118 (w_P_isWithin (d + 4) hG hr1) rfl rfl d_P_cashAfter_5 (aft_ro ?_)
  refine Ev.at (pc' := 8) rfl (Ev.cong (st' := [.inl (.int r1)]) ?_ rfl rfl)
  refine ev_if_ne (tgt := 22) (by decide) d_P_cashAfter_8 (fun c => ?_) (fun c => ?_)
  · rw [if_neg c] at h
    refine ev_aload_n (k0 := 0) rfl d_P_cashAfter_22 ?_
    refine cv_get9 (.inr (0, off 9 1)) hG v_12 fg_ProphecyShop_51_12 rfl rfl d_P_cashAfter_23 ?_
    refine ev_aload_n (k0 := 0) rfl d_P_cashAfter_26 ?_
    refine cv_get9 (.inr (0, off 9 0)) hG v_12 fg_ProphecyShop_47_12 rfl rfl d_P_cashAfter_27 ?_
    obtain ⟨r2, hr2, h⟩ := bind_some9 h
    refine cv_V (d := d + 4) (mc1 := 0) (ms1 := 0) (mc := 0) (ms := 0) [.inr (0, off 9 0)] hG (show vc 9 1 from (by decide : 1 < 12)) rfl lk_ProphecyShop_296 (w_Shop_copyFrom (d + 3) (show vc 9 1 from (by decide : 1 < 12)) (show vc 9 0 from (by decide : 0 < 12)) hG hr2) rfl rfl d_P_cashAfter_30 (aft_rw (fun G hG => ?_))
    refine Ev.at (pc' := 33) rfl (Ev.cong (st' := []) ?_ rfl rfl)
    refine ev_aload_n (k0 := 0) rfl d_P_cashAfter_33 ?_
    refine cv_get9 (.inr (0, off 9 1)) hG v_12 fg_ProphecyShop_51_12 rfl rfl d_P_cashAfter_34 ?_
    refine ev_iload_n (k0 := 1) rfl d_P_cashAfter_37 ?_
    obtain ⟨r3, hr3, h⟩ := bind_some9 h
    refine cv_V (d := d + 4) (mc1 := 0) (ms1 := 0) (mc := 0) (ms := 0) [.inl (.int x1)] hG (show vc 9 1 from (by decide : 1 < 12)) rfl lk_ProphecyShop_300 (w_Shop_passDays (d + 0) (show vc 9 1 from (by decide : 1 < 12)) hG hr3) rfl rfl d_P_cashAfter_38 (aft_rw (fun G hG => ?_))
    refine Ev.at (pc' := 41) rfl (Ev.cong (st' := [.inl (.int r3.1)]) ?_ rfl rfl)
    refine ev_pop rfl d_P_cashAfter_41 ?_
    refine ev_aload_n (k0 := 0) rfl d_P_cashAfter_42 ?_
    refine cv_get9 (.inr (0, off 9 1)) hG v_12 fg_ProphecyShop_51_12 rfl rfl d_P_cashAfter_43 ?_
    refine cv_get9 (.inl (.int (r3.2 9 1 2))) hG (show vc 9 1 from (by decide : 1 < 12)) fg_ProphecyShop_149_9 rfl rfl d_P_cashAfter_46 ?_
    have hP := kE _ (Option.some.inj h).symm
    exact ev_ireturn (st := []) rfl rfl d_P_cashAfter_49 (by rw [hP]; exact ⟨rfl, hG, rfl⟩)
  · rw [if_pos c] at h
    cases h

/-- ProphecyShop$Setup.firstCoinsOf -/
def f_Setup_firstCoinsOf (j0 : Nat) (x1 : Int32) (μ : Mem) : Option (Int32) :=
  ((f_Names_has (3 * j0 + 2) x1 μ)).bind (fun r1 => if r1 = 0 then some 0 else (chk (inb x1 8) (some (μ 24 j0 x1.toNatClampNeg))))
set_option maxRecDepth 100000 in
set_option maxHeartbeats 4000000 in
theorem w_Setup_firstCoinsOf {g : GL} {F G : RG} {nx : Nat} (d : Nat) {j0 : Nat} {x1 : Int32} {μ : Mem} (hv0 : vc 7 j0)  {o : Int32} (hG : LM vc 0 535 μ F G) (h : f_Setup_firstCoinsOf j0 x1 μ = some o) : Mt g (d + 1) m_Setup_firstCoinsOf [.inr (0, off 7 j0), .inl (.int x1)] (G, nx) 0 0 (pRO (rI o) (G, nx)) := by
  unfold f_Setup_firstCoinsOf at h
  have kE : ∀ v, o = v → pRO (rI o) (G, nx) = pRO (rI v) (G, nx) := fun v e => by subst e; rfl
  refine Mt.of9 [some (.inr (0, off 7 j0)), some (.inl (.int x1))] (by decide +kernel) rfl rfl rfl rfl ?_
  refine ev_aload_n (k0 := 0) rfl d_Setup_firstCoinsOf_0 ?_
  refine cv_get9 (.inr (0, off 3 (3 * j0 + 2))) hG hv0 fg_Setup_37_7 rfl rfl d_Setup_firstCoinsOf_1 ?_
  refine ev_iload_n (k0 := 1) rfl d_Setup_firstCoinsOf_4 ?_
  obtain ⟨r1, hr1, h⟩ := bind_some9 h
  refine cv_V (d := d + 0) (mc1 := 0) (ms1 := 0) (mc := 0) (ms := 0) [.inl (.int x1)] hG (tv_7_7 hv0) rfl lk_Setup_60 (w_Names_has (d + 0) (tv_7_7 hv0) hG hr1) rfl rfl d_Setup_firstCoinsOf_5 (aft_ro ?_)
  refine Ev.at (pc' := 8) rfl (Ev.cong (st' := [.inl (.int r1)]) ?_ rfl rfl)
  refine ev_if_eq (tgt := 20) (by decide) d_Setup_firstCoinsOf_8 (fun c => ?_) (fun c => ?_)
  · rw [if_pos c] at h
    refine cw_iconst 0 d_Setup_firstCoinsOf_20 rfl ?_
    have hP := kE _ (Option.some.inj h).symm
    exact ev_ireturn (st := []) rfl rfl d_Setup_firstCoinsOf_21 (by rw [hP]; exact ⟨rfl, rfl⟩)
  · rw [if_neg c] at h
    refine ev_aload_n (k0 := 0) rfl d_Setup_firstCoinsOf_11 ?_
    refine cv_get9 (.inr (0, off 24 j0)) hG hv0 fg_Setup_40_7 rfl rfl d_Setup_firstCoinsOf_12 ?_
    refine ev_iload_n (k0 := 1) rfl d_Setup_firstCoinsOf_15 ?_
    obtain ⟨b2, h⟩ := chk_some h
    refine cv_iald hG (tv_7_8 hv0) rfl rfl b2 rfl d_Setup_firstCoinsOf_16 ?_
    refine ev_goto (tgt := 21) (by decide) d_Setup_firstCoinsOf_17 ?_
    have hP := kE _ (Option.some.inj h).symm
    exact ev_ireturn (st := []) rfl rfl d_Setup_firstCoinsOf_21 (by rw [hP]; exact ⟨rfl, rfl⟩)

/-- ProphecyShop$Setup.sumOfCoins -/
def s_Setup_sumOfCoins_7 (j0 : Nat) (x1 : Int32) (x2 : Int32) (μ : Mem) : Option ((Int32 × Int32) ⊕ (Int32)) :=
  if (μ 3 (3 * j0 + 2) 1) ≤ x2 then (some (.inr x1)) else (((f_Setup_firstCoinsOf j0 x2 μ)).bind (fun r1 => nm (x1 + r1 : Int32) (fun v2 => some (.inl ((v2, x2 + 1))))))
def f_Setup_sumOfCoins (j0 : Nat) (μ : Mem) : Option (Int32) :=
  nm (μ 7 j0 0 : Int32) (fun v1 => (it (fun (s : Int32 × Int32) => s_Setup_sumOfCoins_7 j0 s.1 s.2 μ) LIM ((v1, 0))).bind (fun q2 => some q2))
set_option maxRecDepth 100000 in
set_option maxHeartbeats 4000000 in
theorem ws_Setup_sumOfCoins_7 {g : GL} {F G : RG} {nx mc ms : Nat} {Post : RO → RM → Prop} (d : Nat) {j0 : Nat} {x1 : Int32} {x2 : Int32} {μ : Mem} (hv0 : vc 7 j0)  {o : (Int32 × Int32) ⊕ (Int32)} (hG : LM vc 0 535 μ F G) (h : s_Setup_sumOfCoins_7 j0 x1 x2 μ = some o)
    (kC : ∀ s', o = .inl s' → Ev g (d + 2) m_Setup_sumOfCoins 7 [some (.inr (0, off 7 j0)), some (.inl (.int s'.1)), some (.inl (.int s'.2))] [] (G, nx) mc ms Post)
    (kX : ∀ r, o = .inr r → Ev g (d + 2) m_Setup_sumOfCoins 32 [none, some (.inl (.int r)), none] [] (G, nx) mc ms Post)
    : Ev g (d + 2) m_Setup_sumOfCoins 7 [some (.inr (0, off 7 j0)), some (.inl (.int x1)), some (.inl (.int x2))] [] (G, nx) mc ms Post := by
  unfold s_Setup_sumOfCoins_7 at h
  refine ev_iload_n (k0 := 2) rfl d_Setup_sumOfCoins_7 ?_
  refine ev_aload_n (k0 := 0) rfl d_Setup_sumOfCoins_8 ?_
  refine cv_get9 (.inr (0, off 3 (3 * j0 + 2))) hG hv0 fg_Setup_37_7 rfl rfl d_Setup_sumOfCoins_9 ?_
  refine cv_get9 (.inl (.int (μ 3 (3 * j0 + 2) 1))) hG (tv_7_7 hv0) fg_Setup_53_3 rfl rfl d_Setup_sumOfCoins_12 ?_
  refine ev_icmp_ge (tgt := 32) (by decide) d_Setup_sumOfCoins_15 (fun c => ?_) (fun c => ?_)
  · rw [if_pos c] at h
    exact Ev.sub (.n (.s (.n LSb.z))) (kX _ (Option.some.inj h).symm)
  · rw [if_neg c] at h
    refine ev_iload_n (k0 := 1) rfl d_Setup_sumOfCoins_18 ?_
    refine ev_aload_n (k0 := 0) rfl d_Setup_sumOfCoins_19 ?_
    refine ev_iload_n (k0 := 2) rfl d_Setup_sumOfCoins_20 ?_
    obtain ⟨r1, hr1, h⟩ := bind_some9 h
    refine Ev.z9 ?_
    refine cv_V (d := d + 1) (mc1 := 0) (ms1 := 0) (mc := mc) (ms := ms) [.inl (.int x2)] hG hv0 rfl lk_Setup_64 (w_Setup_firstCoinsOf (d + 0) hv0 hG hr1) rfl rfl d_Setup_sumOfCoins_21 (aft_ro ?_)
    refine Ev.at (pc' := 24) rfl (Ev.cong (st' := [.inl (.int r1), .inl (.int x1)]) ?_ rfl rfl)
    refine ev_iadd d_Setup_sumOfCoins_24 ?_
    obtain ⟨v2, e_v2, h⟩ := nm_some h
    refine cw_istoreN_n 1 v2 e_v2 [some (.inr (0, off 7 j0)), some (.inl (.int v2)), some (.inl (.int x2))] d_Setup_sumOfCoins_25 rfl rfl rfl ?_
    refine cw_iincN 2 1 [some (.inr (0, off 7 j0)), some (.inl (.int v2)), some (.inl (.int (x2 + 1)))] d_Setup_sumOfCoins_26 rfl rfl rfl rfl rfl ?_
    refine ev_goto (tgt := 7) (by decide) d_Setup_sumOfCoins_29 ?_
    exact kC _ (Option.some.inj h).symm
set_option maxRecDepth 100000 in
set_option maxHeartbeats 4000000 in
theorem w_Setup_sumOfCoins {g : GL} {F G : RG} {nx : Nat} (d : Nat) {j0 : Nat} {μ : Mem} (hv0 : vc 7 j0)  {o : Int32} (hG : LM vc 0 535 μ F G) (h : f_Setup_sumOfCoins j0 μ = some o) : Mt g (d + 2) m_Setup_sumOfCoins [.inr (0, off 7 j0)] (G, nx) 0 0 (pRO (rI o) (G, nx)) := by
  unfold f_Setup_sumOfCoins at h
  have kE : ∀ v, o = v → pRO (rI o) (G, nx) = pRO (rI v) (G, nx) := fun v e => by subst e; rfl
  refine Mt.of9 [some (.inr (0, off 7 j0)), none, none] (by decide +kernel) rfl rfl rfl rfl ?_
  refine ev_aload_n (k0 := 0) rfl d_Setup_sumOfCoins_0 ?_
  refine cv_get9 (.inl (.int (μ 7 j0 0))) hG hv0 fg_Setup_9_7 rfl rfl d_Setup_sumOfCoins_1 ?_
  obtain ⟨v1, e_v1, h⟩ := nm_some h
  refine cw_istoreN_n 1 v1 e_v1 [some (.inr (0, off 7 j0)), some (.inl (.int v1)), none] d_Setup_sumOfCoins_4 rfl rfl rfl ?_
  refine cw_iconst 0 d_Setup_sumOfCoins_5 rfl ?_
  refine cw_istoreN_n 2 0 rfl [some (.inr (0, off 7 j0)), some (.inl (.int v1)), some (.inl (.int 0))] d_Setup_sumOfCoins_6 rfl rfl rfl ?_
  obtain ⟨q2, hl, h⟩ := bind_some9 h
  refine it_ev (W := fun (s : Int32 × Int32) => Ev g (d + 2) m_Setup_sumOfCoins 7 [some (.inr (0, off 7 j0)), some (.inl (.int s.1)), some (.inl (.int s.2))] [] (G, nx) 0 0 (pRO (rI o) (G, nx))) (X := fun z => z = q2) rfl (fun s9 o9 hs kC9 kX9 => ?_) LIM _ hl
  refine ws_Setup_sumOfCoins_7 d hv0 hG hs kC9 (fun r_ e => ?_)
  · obtain rfl := (kX9 _ e).symm
    refine ev_iload_n (k0 := 1) rfl d_Setup_sumOfCoins_32 ?_
    have hP := kE _ (Option.some.inj h).symm
    exact ev_ireturn (st := []) rfl rfl d_Setup_sumOfCoins_33 (by rw [hP]; exact ⟨rfl, rfl⟩)

/-- ProphecyShop$Shop.sumOfCoins -/
def s_Shop_sumOfCoins_7 (j0 : Nat) (x1 : Int32) (x2 : Int32) (μ : Mem) : Option ((Int32 × Int32) ⊕ (Int32)) :=
  if (8 : Int32) ≤ x2 then (some (.inr x1)) else (chk (inb x2 8) (nm (x1 + (μ 27 j0 x2.toNatClampNeg) : Int32) (fun v2 => some (.inl ((v2, x2 + 1))))))
def s_Shop_sumOfCoins_30 (j0 : Nat) (x1 : Int32) (x2 : Int32) (μ : Mem) : Option ((Int32 × Int32) ⊕ (Int32)) :=
  if (5 : Int32) ≤ x2 then (some (.inr x1)) else (chk (inb x2 5) (nm (x1 + (μ 4 (5 * j0 + x2.toNatClampNeg) 1) : Int32) (fun v2 => some (.inl ((v2, x2 + 1))))))
def f_Shop_sumOfCoins (j0 : Nat) (μ : Mem) : Option (Int32) :=
  nm (μ 9 j0 2 : Int32) (fun v1 => (it (fun (s : Int32 × Int32) => s_Shop_sumOfCoins_7 j0 s.1 s.2 μ) LIM ((v1, 0))).bind (fun q2 => (it (fun (s : Int32 × Int32) => s_Shop_sumOfCoins_30 j0 s.1 s.2 μ) LIM ((q2, 0))).bind (fun q3 => some q3)))
set_option maxRecDepth 100000 in
set_option maxHeartbeats 4000000 in
theorem ws_Shop_sumOfCoins_7 {g : GL} {F G : RG} {nx mc ms : Nat} {Post : RO → RM → Prop} (d : Nat) {j0 : Nat} {x1 : Int32} {x2 : Int32} {μ : Mem} (hv0 : vc 9 j0)  {o : (Int32 × Int32) ⊕ (Int32)} (hG : LM vc 0 535 μ F G) (h : s_Shop_sumOfCoins_7 j0 x1 x2 μ = some o)
    (kC : ∀ s', o = .inl s' → Ev g (d + 0) m_Shop_sumOfCoins 7 [some (.inr (0, off 9 j0)), some (.inl (.int s'.1)), some (.inl (.int s'.2))] [] (G, nx) mc ms Post)
    (kX : ∀ r, o = .inr r → Ev g (d + 0) m_Shop_sumOfCoins 28 [some (.inr (0, off 9 j0)), some (.inl (.int r)), none] [] (G, nx) mc ms Post)
    : Ev g (d + 0) m_Shop_sumOfCoins 7 [some (.inr (0, off 9 j0)), some (.inl (.int x1)), some (.inl (.int x2))] [] (G, nx) mc ms Post := by
  unfold s_Shop_sumOfCoins_7 at h
  refine ev_iload_n (k0 := 2) rfl d_Shop_sumOfCoins_7 ?_
  refine cw_bipush 8 d_Shop_sumOfCoins_8 rfl ?_
  refine ev_icmp_ge (tgt := 28) (by decide) d_Shop_sumOfCoins_10 (fun c => ?_) (fun c => ?_)
  · rw [if_pos c] at h
    exact Ev.sub (.s (.s (.n LSb.z))) (kX _ (Option.some.inj h).symm)
  · rw [if_neg c] at h
    refine ev_iload_n (k0 := 1) rfl d_Shop_sumOfCoins_13 ?_
    refine ev_aload_n (k0 := 0) rfl d_Shop_sumOfCoins_14 ?_
    refine cv_get9 (.inr (0, off 27 j0)) hG hv0 fg_Shop_18_9 rfl rfl d_Shop_sumOfCoins_15 ?_
    refine ev_iload_n (k0 := 2) rfl d_Shop_sumOfCoins_18 ?_
    obtain ⟨b1, h⟩ := chk_some h
    refine cv_iald hG (tv_9_3 hv0) rfl rfl b1 rfl d_Shop_sumOfCoins_19 ?_
    refine ev_iadd d_Shop_sumOfCoins_20 ?_
    obtain ⟨v2, e_v2, h⟩ := nm_some h
    refine cw_istoreN_n 1 v2 e_v2 [some (.inr (0, off 9 j0)), some (.inl (.int v2)), some (.inl (.int x2))] d_Shop_sumOfCoins_21 rfl rfl rfl ?_
    refine cw_iincN 2 1 [some (.inr (0, off 9 j0)), some (.inl (.int v2)), some (.inl (.int (x2 + 1)))] d_Shop_sumOfCoins_22 rfl rfl rfl rfl rfl ?_
    refine ev_goto (tgt := 7) (by decide) d_Shop_sumOfCoins_25 ?_
    exact kC _ (Option.some.inj h).symm
set_option maxRecDepth 100000 in
set_option maxHeartbeats 4000000 in
theorem ws_Shop_sumOfCoins_30 {g : GL} {F G : RG} {nx mc ms : Nat} {Post : RO → RM → Prop} (d : Nat) {j0 : Nat} {x1 : Int32} {x2 : Int32} {μ : Mem} (hv0 : vc 9 j0)  {o : (Int32 × Int32) ⊕ (Int32)} (hG : LM vc 0 535 μ F G) (h : s_Shop_sumOfCoins_30 j0 x1 x2 μ = some o)
    (kC : ∀ s', o = .inl s' → Ev g (d + 0) m_Shop_sumOfCoins 30 [some (.inr (0, off 9 j0)), some (.inl (.int s'.1)), some (.inl (.int s'.2))] [] (G, nx) mc ms Post)
    (kX : ∀ r, o = .inr r → Ev g (d + 0) m_Shop_sumOfCoins 53 [none, some (.inl (.int r)), none] [] (G, nx) mc ms Post)
    : Ev g (d + 0) m_Shop_sumOfCoins 30 [some (.inr (0, off 9 j0)), some (.inl (.int x1)), some (.inl (.int x2))] [] (G, nx) mc ms Post := by
  unfold s_Shop_sumOfCoins_30 at h
  refine ev_iload_n (k0 := 2) rfl d_Shop_sumOfCoins_30 ?_
  refine cw_iconst 5 d_Shop_sumOfCoins_31 rfl ?_
  refine ev_icmp_ge (tgt := 53) (by decide) d_Shop_sumOfCoins_32 (fun c => ?_) (fun c => ?_)
  · rw [if_pos c] at h
    exact Ev.sub (.n (.s (.n LSb.z))) (kX _ (Option.some.inj h).symm)
  · rw [if_neg c] at h
    refine ev_iload_n (k0 := 1) rfl d_Shop_sumOfCoins_35 ?_
    refine ev_aload_n (k0 := 0) rfl d_Shop_sumOfCoins_36 ?_
    refine cv_get9 (.inr (0, off 29 j0)) hG hv0 fg_Shop_33_9 rfl rfl d_Shop_sumOfCoins_37 ?_
    refine ev_iload_n (k0 := 2) rfl d_Shop_sumOfCoins_40 ?_
    obtain ⟨b1, h⟩ := chk_some h
    refine cv_aald (.inr (0, off 4 (5 * j0 + x2.toNatClampNeg))) hG (tv_9_6 hv0) rfl rfl rfl b1 rfl d_Shop_sumOfCoins_41 ?_
    refine cv_get9 (.inl (.int (μ 4 (5 * j0 + x2.toNatClampNeg) 1))) hG (ta_29 (tv_9_6 hv0) b1) fg_Shop_241_4 rfl rfl d_Shop_sumOfCoins_42 ?_
    refine ev_iadd d_Shop_sumOfCoins_45 ?_
    obtain ⟨v2, e_v2, h⟩ := nm_some h
    refine cw_istoreN_n 1 v2 e_v2 [some (.inr (0, off 9 j0)), some (.inl (.int v2)), some (.inl (.int x2))] d_Shop_sumOfCoins_46 rfl rfl rfl ?_
    refine cw_iincN 2 1 [some (.inr (0, off 9 j0)), some (.inl (.int v2)), some (.inl (.int (x2 + 1)))] d_Shop_sumOfCoins_47 rfl rfl rfl rfl rfl ?_
    refine ev_goto (tgt := 30) (by decide) d_Shop_sumOfCoins_50 ?_
    exact kC _ (Option.some.inj h).symm
set_option maxRecDepth 100000 in
set_option maxHeartbeats 4000000 in
theorem w_Shop_sumOfCoins {g : GL} {F G : RG} {nx : Nat} (d : Nat) {j0 : Nat} {μ : Mem} (hv0 : vc 9 j0)  {o : Int32} (hG : LM vc 0 535 μ F G) (h : f_Shop_sumOfCoins j0 μ = some o) : Mt g (d + 0) m_Shop_sumOfCoins [.inr (0, off 9 j0)] (G, nx) 0 0 (pRO (rI o) (G, nx)) := by
  unfold f_Shop_sumOfCoins at h
  have kE : ∀ v, o = v → pRO (rI o) (G, nx) = pRO (rI v) (G, nx) := fun v e => by subst e; rfl
  refine Mt.of9 [some (.inr (0, off 9 j0)), none, none] (by decide +kernel) rfl rfl rfl rfl ?_
  refine ev_aload_n (k0 := 0) rfl d_Shop_sumOfCoins_0 ?_
  refine cv_get9 (.inl (.int (μ 9 j0 2))) hG hv0 fg_Shop_15_9 rfl rfl d_Shop_sumOfCoins_1 ?_
  obtain ⟨v1, e_v1, h⟩ := nm_some h
  refine cw_istoreN_n 1 v1 e_v1 [some (.inr (0, off 9 j0)), some (.inl (.int v1)), none] d_Shop_sumOfCoins_4 rfl rfl rfl ?_
  refine cw_iconst 0 d_Shop_sumOfCoins_5 rfl ?_
  refine cw_istoreN_n 2 0 rfl [some (.inr (0, off 9 j0)), some (.inl (.int v1)), some (.inl (.int 0))] d_Shop_sumOfCoins_6 rfl rfl rfl ?_
  obtain ⟨q2, hl, h⟩ := bind_some9 h
  refine it_ev (W := fun (s : Int32 × Int32) => Ev g (d + 0) m_Shop_sumOfCoins 7 [some (.inr (0, off 9 j0)), some (.inl (.int s.1)), some (.inl (.int s.2))] [] (G, nx) 0 0 (pRO (rI o) (G, nx))) (X := fun z => z = q2) rfl (fun s9 o9 hs kC9 kX9 => ?_) LIM _ hl
  refine ws_Shop_sumOfCoins_7 d hv0 hG hs kC9 (fun r_ e => ?_)
  · obtain rfl := (kX9 _ e).symm
    refine cw_iconst 0 d_Shop_sumOfCoins_28 rfl ?_
    refine cw_istoreN_n 2 0 rfl [some (.inr (0, off 9 j0)), some (.inl (.int q2)), some (.inl (.int 0))] d_Shop_sumOfCoins_29 rfl rfl rfl ?_
    obtain ⟨q3, hl, h⟩ := bind_some9 h
    refine it_ev (W := fun (s : Int32 × Int32) => Ev g (d + 0) m_Shop_sumOfCoins 30 [some (.inr (0, off 9 j0)), some (.inl (.int s.1)), some (.inl (.int s.2))] [] (G, nx) 0 0 (pRO (rI o) (G, nx))) (X := fun z => z = q3) rfl (fun s9 o9 hs kC9 kX9 => ?_) LIM _ hl
    refine ws_Shop_sumOfCoins_30 d hv0 hG hs kC9 (fun r_ e => ?_)
    · obtain rfl := (kX9 _ e).symm
      refine ev_iload_n (k0 := 1) rfl d_Shop_sumOfCoins_53 ?_
      have hP := kE _ (Option.some.inj h).symm
      exact ev_ireturn (st := []) rfl rfl d_Shop_sumOfCoins_54 (by rw [hP]; exact ⟨rfl, rfl⟩)

/-- ProphecyShop$Shop.sumOfRefunds -/
def s_Shop_sumOfRefunds_4 (j0 : Nat) (x1 : Int32) (x2 : Int32) (μ : Mem) : Option ((Int32 × Int32) ⊕ (Int32)) :=
  if (μ 9 j0 5) ≤ x2 then (some (.inr x1)) else (chk (inb x2 24) (if (μ 5 (24 * j0 + x2.toNatClampNeg) 7) = 3 then (chk (inb x2 24) (((f_Shop_refundFor j0 (24 * j0 + x2.toNatClampNeg) μ)).bind (fun r3 => nm (x1 + r3 : Int32) (fun v4 => some (.inl ((v4, x2 + 1))))))) else (some (.inl ((x1, x2 + 1))))))
def f_Shop_sumOfRefunds (j0 : Nat) (μ : Mem) : Option (Int32) :=
  (it (fun (s : Int32 × Int32) => s_Shop_sumOfRefunds_4 j0 s.1 s.2 μ) LIM ((0, 0))).bind (fun q1 => some q1)
set_option maxRecDepth 100000 in
set_option maxHeartbeats 4000000 in
theorem ws_Shop_sumOfRefunds_4 {g : GL} {F G : RG} {nx mc ms : Nat} {Post : RO → RM → Prop} (d : Nat) {j0 : Nat} {x1 : Int32} {x2 : Int32} {μ : Mem} (hv0 : vc 9 j0)  {o : (Int32 × Int32) ⊕ (Int32)} (hG : LM vc 0 535 μ F G) (h : s_Shop_sumOfRefunds_4 j0 x1 x2 μ = some o)
    (kC : ∀ s', o = .inl s' → Ev g (d + 1) m_Shop_sumOfRefunds 4 [some (.inr (0, off 9 j0)), some (.inl (.int s'.1)), some (.inl (.int s'.2))] [] (G, nx) mc ms Post)
    (kX : ∀ r, o = .inr r → Ev g (d + 1) m_Shop_sumOfRefunds 44 [none, some (.inl (.int r)), none] [] (G, nx) mc ms Post)
    : Ev g (d + 1) m_Shop_sumOfRefunds 4 [some (.inr (0, off 9 j0)), some (.inl (.int x1)), some (.inl (.int x2))] [] (G, nx) mc ms Post := by
  unfold s_Shop_sumOfRefunds_4 at h
  refine ev_iload_n (k0 := 2) rfl d_Shop_sumOfRefunds_4 ?_
  refine ev_aload_n (k0 := 0) rfl d_Shop_sumOfRefunds_5 ?_
  refine cv_get9 (.inl (.int (μ 9 j0 5))) hG hv0 fg_Shop_28_9 rfl rfl d_Shop_sumOfRefunds_6 ?_
  refine ev_icmp_ge (tgt := 44) (by decide) d_Shop_sumOfRefunds_9 (fun c => ?_) (fun c => ?_)
  · rw [if_pos c] at h
    exact Ev.sub (.n (.s (.n LSb.z))) (kX _ (Option.some.inj h).symm)
  · rw [if_neg c] at h
    refine ev_aload_n (k0 := 0) rfl d_Shop_sumOfRefunds_12 ?_
    refine cv_get9 (.inr (0, off 28 j0)) hG hv0 fg_Shop_24_9 rfl rfl d_Shop_sumOfRefunds_13 ?_
    refine ev_iload_n (k0 := 2) rfl d_Shop_sumOfRefunds_16 ?_
    obtain ⟨b1, h⟩ := chk_some h
    refine cv_aald (.inr (0, off 5 (24 * j0 + x2.toNatClampNeg))) hG (tv_9_4 hv0) rfl rfl rfl b1 rfl d_Shop_sumOfRefunds_17 ?_
    refine cv_get9 (.inl (.int (μ 5 (24 * j0 + x2.toNatClampNeg) 7))) hG (ta_28 (tv_9_4 hv0) b1) fg_Shop_137_5 rfl rfl d_Shop_sumOfRefunds_18 ?_
    refine cw_iconst 3 d_Shop_sumOfRefunds_21 rfl ?_
    refine ev_icmp_ne (tgt := 38) (by decide) d_Shop_sumOfRefunds_22 (fun c => ?_) (fun c => ?_)
    · rw [if_neg c] at h
      refine cw_iincN 2 1 [some (.inr (0, off 9 j0)), some (.inl (.int x1)), some (.inl (.int (x2 + 1)))] d_Shop_sumOfRefunds_38 rfl rfl rfl rfl rfl ?_
      refine ev_goto (tgt := 4) (by decide) d_Shop_sumOfRefunds_41 ?_
      exact kC _ (Option.some.inj h).symm
    · rw [if_pos c] at h
      refine ev_iload_n (k0 := 1) rfl d_Shop_sumOfRefunds_25 ?_
      refine ev_aload_n (k0 := 0) rfl d_Shop_sumOfRefunds_26 ?_
      refine ev_aload_n (k0 := 0) rfl d_Shop_sumOfRefunds_27 ?_
      refine cv_get9 (.inr (0, off 28 j0)) hG hv0 fg_Shop_24_9 rfl rfl d_Shop_sumOfRefunds_28 ?_
      refine ev_iload_n (k0 := 2) rfl d_Shop_sumOfRefunds_31 ?_
      obtain ⟨b2, h⟩ := chk_some h
      refine cv_aald (.inr (0, off 5 (24 * j0 + x2.toNatClampNeg))) hG (tv_9_4 hv0) rfl rfl rfl b2 rfl d_Shop_sumOfRefunds_32 ?_
      obtain ⟨r3, hr3, h⟩ := bind_some9 h
      refine Ev.z9 ?_
      refine cv_V (d := d + 0) (mc1 := 0) (ms1 := 0) (mc := mc) (ms := ms) [.inr (0, off 5 (24 * j0 + x2.toNatClampNeg))] hG hv0 rfl lk_Shop_174 (w_Shop_refundFor (d + 0) hv0 (ta_28 (tv_9_4 hv0) b2) hG hr3) rfl rfl d_Shop_sumOfRefunds_33 (aft_ro ?_)
      refine Ev.at (pc' := 36) rfl (Ev.cong (st' := [.inl (.int r3), .inl (.int x1)]) ?_ rfl rfl)
      refine ev_iadd d_Shop_sumOfRefunds_36 ?_
      obtain ⟨v4, e_v4, h⟩ := nm_some h
      refine cw_istoreN_n 1 v4 e_v4 [some (.inr (0, off 9 j0)), some (.inl (.int v4)), some (.inl (.int x2))] d_Shop_sumOfRefunds_37 rfl rfl rfl ?_
      refine cw_iincN 2 1 [some (.inr (0, off 9 j0)), some (.inl (.int v4)), some (.inl (.int (x2 + 1)))] d_Shop_sumOfRefunds_38 rfl rfl rfl rfl rfl ?_
      refine ev_goto (tgt := 4) (by decide) d_Shop_sumOfRefunds_41 ?_
      exact kC _ (Option.some.inj h).symm
set_option maxRecDepth 100000 in
set_option maxHeartbeats 4000000 in
theorem w_Shop_sumOfRefunds {g : GL} {F G : RG} {nx : Nat} (d : Nat) {j0 : Nat} {μ : Mem} (hv0 : vc 9 j0)  {o : Int32} (hG : LM vc 0 535 μ F G) (h : f_Shop_sumOfRefunds j0 μ = some o) : Mt g (d + 1) m_Shop_sumOfRefunds [.inr (0, off 9 j0)] (G, nx) 0 0 (pRO (rI o) (G, nx)) := by
  unfold f_Shop_sumOfRefunds at h
  have kE : ∀ v, o = v → pRO (rI o) (G, nx) = pRO (rI v) (G, nx) := fun v e => by subst e; rfl
  refine Mt.of9 [some (.inr (0, off 9 j0)), none, none] (by decide +kernel) rfl rfl rfl rfl ?_
  refine cw_iconst 0 d_Shop_sumOfRefunds_0 rfl ?_
  refine cw_istoreN_n 1 0 rfl [some (.inr (0, off 9 j0)), some (.inl (.int 0)), none] d_Shop_sumOfRefunds_1 rfl rfl rfl ?_
  refine cw_iconst 0 d_Shop_sumOfRefunds_2 rfl ?_
  refine cw_istoreN_n 2 0 rfl [some (.inr (0, off 9 j0)), some (.inl (.int 0)), some (.inl (.int 0))] d_Shop_sumOfRefunds_3 rfl rfl rfl ?_
  obtain ⟨q1, hl, h⟩ := bind_some9 h
  refine it_ev (W := fun (s : Int32 × Int32) => Ev g (d + 1) m_Shop_sumOfRefunds 4 [some (.inr (0, off 9 j0)), some (.inl (.int s.1)), some (.inl (.int s.2))] [] (G, nx) 0 0 (pRO (rI o) (G, nx))) (X := fun z => z = q1) rfl (fun s9 o9 hs kC9 kX9 => ?_) LIM _ hl
  refine ws_Shop_sumOfRefunds_4 d hv0 hG hs kC9 (fun r_ e => ?_)
  · obtain rfl := (kX9 _ e).symm
    refine ev_iload_n (k0 := 1) rfl d_Shop_sumOfRefunds_44 ?_
    have hP := kE _ (Option.some.inj h).symm
    exact ev_ireturn (st := []) rfl rfl d_Shop_sumOfRefunds_45 (by rw [hP]; exact ⟨rfl, rfl⟩)

/-- ProphecyShop$Shop.countOverdue -/
def s_Shop_countOverdue_4 (j0 : Nat) (x1 : Int32) (x2 : Int32) (μ : Mem) : Option ((Int32 × Int32) ⊕ (Int32)) :=
  if (μ 9 j0 5) ≤ x2 then (some (.inr x1)) else (chk (inb x2 24) (((f_Prophecy_isOverdue (24 * j0 + x2.toNatClampNeg) (μ 9 j0 1) μ)).bind (fun r2 => if r2 = 0 then (some (.inl ((x1, x2 + 1)))) else (some (.inl ((x1 + 1, x2 + 1)))))))
def f_Shop_countOverdue (j0 : Nat) (μ : Mem) : Option (Int32) :=
  (it (fun (s : Int32 × Int32) => s_Shop_countOverdue_4 j0 s.1 s.2 μ) LIM ((0, 0))).bind (fun q1 => some q1)
set_option maxRecDepth 100000 in
set_option maxHeartbeats 4000000 in
theorem ws_Shop_countOverdue_4 {g : GL} {F G : RG} {nx mc ms : Nat} {Post : RO → RM → Prop} (d : Nat) {j0 : Nat} {x1 : Int32} {x2 : Int32} {μ : Mem} (hv0 : vc 9 j0)  {o : (Int32 × Int32) ⊕ (Int32)} (hG : LM vc 0 535 μ F G) (h : s_Shop_countOverdue_4 j0 x1 x2 μ = some o)
    (kC : ∀ s', o = .inl s' → Ev g (d + 1) m_Shop_countOverdue 4 [some (.inr (0, off 9 j0)), some (.inl (.int s'.1)), some (.inl (.int s'.2))] [] (G, nx) mc ms Post)
    (kX : ∀ r, o = .inr r → Ev g (d + 1) m_Shop_countOverdue 37 [none, some (.inl (.int r)), none] [] (G, nx) mc ms Post)
    : Ev g (d + 1) m_Shop_countOverdue 4 [some (.inr (0, off 9 j0)), some (.inl (.int x1)), some (.inl (.int x2))] [] (G, nx) mc ms Post := by
  unfold s_Shop_countOverdue_4 at h
  refine ev_iload_n (k0 := 2) rfl d_Shop_countOverdue_4 ?_
  refine ev_aload_n (k0 := 0) rfl d_Shop_countOverdue_5 ?_
  refine cv_get9 (.inl (.int (μ 9 j0 5))) hG hv0 fg_Shop_28_9 rfl rfl d_Shop_countOverdue_6 ?_
  refine ev_icmp_ge (tgt := 37) (by decide) d_Shop_countOverdue_9 (fun c => ?_) (fun c => ?_)
  · rw [if_pos c] at h
    exact Ev.sub (.n (.s (.n LSb.z))) (kX _ (Option.some.inj h).symm)
  · rw [if_neg c] at h
    refine ev_aload_n (k0 := 0) rfl d_Shop_countOverdue_12 ?_
    refine cv_get9 (.inr (0, off 28 j0)) hG hv0 fg_Shop_24_9 rfl rfl d_Shop_countOverdue_13 ?_
    refine ev_iload_n (k0 := 2) rfl d_Shop_countOverdue_16 ?_
    obtain ⟨b1, h⟩ := chk_some h
    refine cv_aald (.inr (0, off 5 (24 * j0 + x2.toNatClampNeg))) hG (tv_9_4 hv0) rfl rfl rfl b1 rfl d_Shop_countOverdue_17 ?_
    refine ev_aload_n (k0 := 0) rfl d_Shop_countOverdue_18 ?_
    refine cv_get9 (.inl (.int (μ 9 j0 1))) hG hv0 fg_Shop_9_9 rfl rfl d_Shop_countOverdue_19 ?_
    obtain ⟨r2, hr2, h⟩ := bind_some9 h
    refine Ev.z9 ?_
    refine cv_V (d := d + 0) (mc1 := 0) (ms1 := 0) (mc := mc) (ms := ms) [.inl (.int (μ 9 j0 1))] hG (ta_28 (tv_9_4 hv0) b1) rfl lk_Shop_238 (w_Prophecy_isOverdue (d + 0) (ta_28 (tv_9_4 hv0) b1) hG hr2) rfl rfl d_Shop_countOverdue_22 (aft_ro ?_)
    refine Ev.at (pc' := 25) rfl (Ev.cong (st' := [.inl (.int r2)]) ?_ rfl rfl)
    refine ev_if_eq (tgt := 31) (by decide) d_Shop_countOverdue_25 (fun c => ?_) (fun c => ?_)
    · rw [if_pos c] at h
      refine cw_iincN 2 1 [some (.inr (0, off 9 j0)), some (.inl (.int x1)), some (.inl (.int (x2 + 1)))] d_Shop_countOverdue_31 rfl rfl rfl rfl rfl ?_
      refine ev_goto (tgt := 4) (by decide) d_Shop_countOverdue_34 ?_
      exact kC _ (Option.some.inj h).symm
    · rw [if_neg c] at h
      refine cw_iincN 1 1 [some (.inr (0, off 9 j0)), some (.inl (.int (x1 + 1))), some (.inl (.int x2))] d_Shop_countOverdue_28 rfl rfl rfl rfl rfl ?_
      refine cw_iincN 2 1 [some (.inr (0, off 9 j0)), some (.inl (.int (x1 + 1))), some (.inl (.int (x2 + 1)))] d_Shop_countOverdue_31 rfl rfl rfl rfl rfl ?_
      refine ev_goto (tgt := 4) (by decide) d_Shop_countOverdue_34 ?_
      exact kC _ (Option.some.inj h).symm
set_option maxRecDepth 100000 in
set_option maxHeartbeats 4000000 in
theorem w_Shop_countOverdue {g : GL} {F G : RG} {nx : Nat} (d : Nat) {j0 : Nat} {μ : Mem} (hv0 : vc 9 j0)  {o : Int32} (hG : LM vc 0 535 μ F G) (h : f_Shop_countOverdue j0 μ = some o) : Mt g (d + 1) m_Shop_countOverdue [.inr (0, off 9 j0)] (G, nx) 0 0 (pRO (rI o) (G, nx)) := by
  unfold f_Shop_countOverdue at h
  have kE : ∀ v, o = v → pRO (rI o) (G, nx) = pRO (rI v) (G, nx) := fun v e => by subst e; rfl
  refine Mt.of9 [some (.inr (0, off 9 j0)), none, none] (by decide +kernel) rfl rfl rfl rfl ?_
  refine cw_iconst 0 d_Shop_countOverdue_0 rfl ?_
  refine cw_istoreN_n 1 0 rfl [some (.inr (0, off 9 j0)), some (.inl (.int 0)), none] d_Shop_countOverdue_1 rfl rfl rfl ?_
  refine cw_iconst 0 d_Shop_countOverdue_2 rfl ?_
  refine cw_istoreN_n 2 0 rfl [some (.inr (0, off 9 j0)), some (.inl (.int 0)), some (.inl (.int 0))] d_Shop_countOverdue_3 rfl rfl rfl ?_
  obtain ⟨q1, hl, h⟩ := bind_some9 h
  refine it_ev (W := fun (s : Int32 × Int32) => Ev g (d + 1) m_Shop_countOverdue 4 [some (.inr (0, off 9 j0)), some (.inl (.int s.1)), some (.inl (.int s.2))] [] (G, nx) 0 0 (pRO (rI o) (G, nx))) (X := fun z => z = q1) rfl (fun s9 o9 hs kC9 kX9 => ?_) LIM _ hl
  refine ws_Shop_countOverdue_4 d hv0 hG hs kC9 (fun r_ e => ?_)
  · obtain rfl := (kX9 _ e).symm
    refine ev_iload_n (k0 := 1) rfl d_Shop_countOverdue_37 ?_
    have hP := kE _ (Option.some.inj h).symm
    exact ev_ireturn (st := []) rfl rfl d_Shop_countOverdue_38 (by rw [hP]; exact ⟨rfl, rfl⟩)

/-- ProphecyShop.contradictions -/
def f_P_contradictions  (μ : Mem) : Option (Int32) :=
  chk (decide ((μ 12 0 3).toNatClampNeg < 2)) (((f_Setup_sumOfCoins ((μ 12 0 3).toNatClampNeg) μ)).bind (fun r2 => ((f_Shop_sumOfCoins 0 μ)).bind (fun r3 => ((f_Shop_sumOfRefunds 0 μ)).bind (fun r4 => ((f_Shop_countOverdue 0 μ)).bind (fun r5 => some (((if 0 ≤ (r2 - r3) then (r2 - r3) else 0 - (r2 - r3)) + (if 0 ≤ ((μ 9 0 14) - r4) then ((μ 9 0 14) - r4) else 0 - ((μ 9 0 14) - r4))) + r5))))))
set_option maxRecDepth 100000 in
set_option maxHeartbeats 4000000 in
theorem w_P_contradictions {g : GL} {F G : RG} {nx : Nat} (d : Nat)  {μ : Mem}   {o : Int32} (hG : LM vc 0 535 μ F G) (h : f_P_contradictions  μ = some o) : Mt g (d + 3) m_P_contradictions [.inr (0, off 12 0)] (G, nx) 0 0 (pRO (rI o) (G, nx)) := by
  unfold f_P_contradictions at h
  have kE : ∀ v, o = v → pRO (rI o) (G, nx) = pRO (rI v) (G, nx) := fun v e => by subst e; rfl
  refine Mt.of9 [some (.inr (0, off 12 0))] (by decide +kernel) rfl rfl rfl rfl ?_
  refine ev_aload_n (k0 := 0) rfl d_P_contradictions_0 ?_
  obtain ⟨b1, h⟩ := chk_some h
  refine cv_get9 (.inr (0, off 7 ((μ 12 0 3).toNatClampNeg))) hG v_12 fg_ProphecyShop_35_12 rfl rfl d_P_contradictions_1 ?_
  obtain ⟨r2, hr2, h⟩ := bind_some9 h
  refine cv_V (d := d + 2) (mc1 := 0) (ms1 := 0) (mc := 0) (ms := 0) [] hG (show vc 7 _ from dlt9 b1) rfl lk_ProphecyShop_281 (w_Setup_sumOfCoins (d + 0) (show vc 7 _ from dlt9 b1) hG hr2) rfl rfl d_P_contradictions_4 (aft_ro ?_)
  refine Ev.at (pc' := 7) rfl (Ev.cong (st' := [.inl (.int r2)]) ?_ rfl rfl)
  refine ev_aload_n (k0 := 0) rfl d_P_contradictions_7 ?_
  refine cv_get9 (.inr (0, off 9 0)) hG v_12 fg_ProphecyShop_47_12 rfl rfl d_P_contradictions_8 ?_
  obtain ⟨r3, hr3, h⟩ := bind_some9 h
  refine cv_V (d := d + 2) (mc1 := 0) (ms1 := 0) (mc := 0) (ms := 0) [] hG (show vc 9 0 from (by decide : 0 < 12)) rfl lk_ProphecyShop_284 (w_Shop_sumOfCoins (d + 2) (show vc 9 0 from (by decide : 0 < 12)) hG hr3) rfl rfl d_P_contradictions_11 (aft_ro ?_)
  refine Ev.at (pc' := 14) rfl (Ev.cong (st' := [.inl (.int r3), .inl (.int r2)]) ?_ rfl rfl)
  refine ev_isub d_P_contradictions_14 ?_
  refine ev_mabs (Nat.le_of_ble_eq_true rfl) ⟨wg_1435, wg_1436, wg_17, wg_1437⟩ d_P_contradictions_15 ?_
  refine ev_aload_n (k0 := 0) rfl d_P_contradictions_18 ?_
  refine cv_get9 (.inr (0, off 9 0)) hG v_12 fg_ProphecyShop_47_12 rfl rfl d_P_contradictions_19 ?_
  refine cv_get9 (.inl (.int (μ 9 0 14))) hG (show vc 9 0 from (by decide : 0 < 12)) fg_ProphecyShop_275_9 rfl rfl d_P_contradictions_22 ?_
  refine ev_aload_n (k0 := 0) rfl d_P_contradictions_25 ?_
  refine cv_get9 (.inr (0, off 9 0)) hG v_12 fg_ProphecyShop_47_12 rfl rfl d_P_contradictions_26 ?_
  obtain ⟨r4, hr4, h⟩ := bind_some9 h
  refine cv_V (d := d + 2) (mc1 := 0) (ms1 := 0) (mc := 0) (ms := 0) [] hG (show vc 9 0 from (by decide : 0 < 12)) rfl lk_ProphecyShop_290 (w_Shop_sumOfRefunds (d + 1) (show vc 9 0 from (by decide : 0 < 12)) hG hr4) rfl rfl d_P_contradictions_29 (aft_ro ?_)
  refine Ev.at (pc' := 32) rfl (Ev.cong (st' := [.inl (.int r4), .inl (.int (μ 9 0 14)), .inl (.int (if 0 ≤ (r2 - r3) then (r2 - r3) else 0 - (r2 - r3)))]) ?_ rfl rfl)
  refine ev_isub d_P_contradictions_32 ?_
  refine ev_mabs (Nat.le_of_ble_eq_true rfl) ⟨wg_1435, wg_1436, wg_17, wg_1437⟩ d_P_contradictions_33 ?_
  refine ev_iadd d_P_contradictions_36 ?_
  refine ev_aload_n (k0 := 0) rfl d_P_contradictions_37 ?_
  refine cv_get9 (.inr (0, off 9 0)) hG v_12 fg_ProphecyShop_47_12 rfl rfl d_P_contradictions_38 ?_
  obtain ⟨r5, hr5, h⟩ := bind_some9 h
  refine cv_V (d := d + 2) (mc1 := 0) (ms1 := 0) (mc := 0) (ms := 0) [] hG (show vc 9 0 from (by decide : 0 < 12)) rfl lk_ProphecyShop_293 (w_Shop_countOverdue (d + 1) (show vc 9 0 from (by decide : 0 < 12)) hG hr5) rfl rfl d_P_contradictions_41 (aft_ro ?_)
  refine Ev.at (pc' := 44) rfl (Ev.cong (st' := [.inl (.int r5), .inl (.int ((if 0 ≤ (r2 - r3) then (r2 - r3) else 0 - (r2 - r3)) + (if 0 ≤ ((μ 9 0 14) - r4) then ((μ 9 0 14) - r4) else 0 - ((μ 9 0 14) - r4))))]) ?_ rfl rfl)
  refine ev_iadd d_P_contradictions_44 ?_
  have hP := kE _ (Option.some.inj h).symm
  exact ev_ireturn (st := []) rfl rfl d_P_contradictions_45 (by rw [hP]; exact ⟨rfl, rfl⟩)

/-- ProphecyShop$Shop.countWithState -/
def s_Shop_countWithState_4 (j0 : Nat) (x1 : Int32) (x2 : Int32) (x3 : Int32) (μ : Mem) : Option ((Int32 × Int32) ⊕ (Int32)) :=
  if (μ 9 j0 5) ≤ x3 then (some (.inr x2)) else (chk (inb x3 24) (if (μ 5 (24 * j0 + x3.toNatClampNeg) 7) = x1 then (some (.inl ((x2 + 1, x3 + 1)))) else (some (.inl ((x2, x3 + 1))))))
def f_Shop_countWithState (j0 : Nat) (x1 : Int32) (μ : Mem) : Option (Int32) :=
  (it (fun (s : Int32 × Int32) => s_Shop_countWithState_4 j0 x1 s.1 s.2 μ) LIM ((0, 0))).bind (fun q1 => some q1)
set_option maxRecDepth 100000 in
set_option maxHeartbeats 4000000 in
theorem ws_Shop_countWithState_4 {g : GL} {F G : RG} {nx mc ms : Nat} {Post : RO → RM → Prop} (d : Nat) {j0 : Nat} {x1 : Int32} {x2 : Int32} {x3 : Int32} {μ : Mem} (hv0 : vc 9 j0)  {o : (Int32 × Int32) ⊕ (Int32)} (hG : LM vc 0 535 μ F G) (h : s_Shop_countWithState_4 j0 x1 x2 x3 μ = some o)
    (kC : ∀ s', o = .inl s' → Ev g (d + 0) m_Shop_countWithState 4 [some (.inr (0, off 9 j0)), some (.inl (.int x1)), some (.inl (.int s'.1)), some (.inl (.int s'.2))] [] (G, nx) mc ms Post)
    (kX : ∀ r, o = .inr r → Ev g (d + 0) m_Shop_countWithState 34 [none, none, some (.inl (.int r)), none] [] (G, nx) mc ms Post)
    : Ev g (d + 0) m_Shop_countWithState 4 [some (.inr (0, off 9 j0)), some (.inl (.int x1)), some (.inl (.int x2)), some (.inl (.int x3))] [] (G, nx) mc ms Post := by
  unfold s_Shop_countWithState_4 at h
  refine ev_iload_n (k0 := 3) rfl d_Shop_countWithState_4 ?_
  refine ev_aload_n (k0 := 0) rfl d_Shop_countWithState_5 ?_
  refine cv_get9 (.inl (.int (μ 9 j0 5))) hG hv0 fg_Shop_28_9 rfl rfl d_Shop_countWithState_6 ?_
  refine ev_icmp_ge (tgt := 34) (by decide) d_Shop_countWithState_9 (fun c => ?_) (fun c => ?_)
  · rw [if_pos c] at h
    exact Ev.sub (.n (.n (.s (.n LSb.z)))) (kX _ (Option.some.inj h).symm)
  · rw [if_neg c] at h
    refine ev_aload_n (k0 := 0) rfl d_Shop_countWithState_12 ?_
    refine cv_get9 (.inr (0, off 28 j0)) hG hv0 fg_Shop_24_9 rfl rfl d_Shop_countWithState_13 ?_
    refine ev_iload_n (k0 := 3) rfl d_Shop_countWithState_16 ?_
    obtain ⟨b1, h⟩ := chk_some h
    refine cv_aald (.inr (0, off 5 (24 * j0 + x3.toNatClampNeg))) hG (tv_9_4 hv0) rfl rfl rfl b1 rfl d_Shop_countWithState_17 ?_
    refine cv_get9 (.inl (.int (μ 5 (24 * j0 + x3.toNatClampNeg) 7))) hG (ta_28 (tv_9_4 hv0) b1) fg_Shop_137_5 rfl rfl d_Shop_countWithState_18 ?_
    refine ev_iload_n (k0 := 1) rfl d_Shop_countWithState_21 ?_
    refine ev_icmp_ne (tgt := 28) (by decide) d_Shop_countWithState_22 (fun c => ?_) (fun c => ?_)
    · rw [if_neg c] at h
      refine cw_iincN 3 1 [some (.inr (0, off 9 j0)), some (.inl (.int x1)), some (.inl (.int x2)), some (.inl (.int (x3 + 1)))] d_Shop_countWithState_28 rfl rfl rfl rfl rfl ?_
      refine ev_goto (tgt := 4) (by decide) d_Shop_countWithState_31 ?_
      exact kC _ (Option.some.inj h).symm
    · rw [if_pos c] at h
      refine cw_iincN 2 1 [some (.inr (0, off 9 j0)), some (.inl (.int x1)), some (.inl (.int (x2 + 1))), some (.inl (.int x3))] d_Shop_countWithState_25 rfl rfl rfl rfl rfl ?_
      refine cw_iincN 3 1 [some (.inr (0, off 9 j0)), some (.inl (.int x1)), some (.inl (.int (x2 + 1))), some (.inl (.int (x3 + 1)))] d_Shop_countWithState_28 rfl rfl rfl rfl rfl ?_
      refine ev_goto (tgt := 4) (by decide) d_Shop_countWithState_31 ?_
      exact kC _ (Option.some.inj h).symm
set_option maxRecDepth 100000 in
set_option maxHeartbeats 4000000 in
theorem w_Shop_countWithState {g : GL} {F G : RG} {nx : Nat} (d : Nat) {j0 : Nat} {x1 : Int32} {μ : Mem} (hv0 : vc 9 j0)  {o : Int32} (hG : LM vc 0 535 μ F G) (h : f_Shop_countWithState j0 x1 μ = some o) : Mt g (d + 0) m_Shop_countWithState [.inr (0, off 9 j0), .inl (.int x1)] (G, nx) 0 0 (pRO (rI o) (G, nx)) := by
  unfold f_Shop_countWithState at h
  have kE : ∀ v, o = v → pRO (rI o) (G, nx) = pRO (rI v) (G, nx) := fun v e => by subst e; rfl
  refine Mt.of9 [some (.inr (0, off 9 j0)), some (.inl (.int x1)), none, none] (by decide +kernel) rfl rfl rfl rfl ?_
  refine cw_iconst 0 d_Shop_countWithState_0 rfl ?_
  refine cw_istoreN_n 2 0 rfl [some (.inr (0, off 9 j0)), some (.inl (.int x1)), some (.inl (.int 0)), none] d_Shop_countWithState_1 rfl rfl rfl ?_
  refine cw_iconst 0 d_Shop_countWithState_2 rfl ?_
  refine cw_istoreN_n 3 0 rfl [some (.inr (0, off 9 j0)), some (.inl (.int x1)), some (.inl (.int 0)), some (.inl (.int 0))] d_Shop_countWithState_3 rfl rfl rfl ?_
  obtain ⟨q1, hl, h⟩ := bind_some9 h
  refine it_ev (W := fun (s : Int32 × Int32) => Ev g (d + 0) m_Shop_countWithState 4 [some (.inr (0, off 9 j0)), some (.inl (.int x1)), some (.inl (.int s.1)), some (.inl (.int s.2))] [] (G, nx) 0 0 (pRO (rI o) (G, nx))) (X := fun z => z = q1) rfl (fun s9 o9 hs kC9 kX9 => ?_) LIM _ hl
  refine ws_Shop_countWithState_4 d hv0 hG hs kC9 (fun r_ e => ?_)
  · obtain rfl := (kX9 _ e).symm
    refine ev_iload_n (k0 := 2) rfl d_Shop_countWithState_34 ?_
    have hP := kE _ (Option.some.inj h).symm
    exact ev_ireturn (st := []) rfl rfl d_Shop_countWithState_35 (by rw [hP]; exact ⟨rfl, rfl⟩)

/-- ProphecyShop.countIn -/
def f_P_countIn (x1 : Int32) (μ : Mem) : Option (Int32) :=
  if x1 = 0 then (((f_Shop_countWithState 0 x1 μ)).bind (fun r1 => some r1)) else (if x1 = 1 then (((f_Shop_countWithState 0 x1 μ)).bind (fun r2 => some r2)) else (if x1 = 2 then (((f_Shop_countWithState 0 x1 μ)).bind (fun r3 => some r3)) else (if x1 = 3 then (((f_Shop_countWithState 0 x1 μ)).bind (fun r4 => some r4)) else (none))))
set_option maxRecDepth 100000 in
set_option maxHeartbeats 4000000 in
theorem w_P_countIn {g : GL} {F G : RG} {nx : Nat} (d : Nat) {x1 : Int32} {μ : Mem}   {o : Int32} (hG : LM vc 0 535 μ F G) (h : f_P_countIn x1 μ = some o) : Mt g (d + 1) m_P_countIn [.inr (0, off 12 0), .inl (.int x1)] (G, nx) 0 0 (pRO (rI o) (G, nx)) := by
  unfold f_P_countIn at h
  have kE : ∀ v, o = v → pRO (rI o) (G, nx) = pRO (rI v) (G, nx) := fun v e => by subst e; rfl
  refine Mt.of9 [some (.inr (0, off 12 0)), some (.inl (.int x1))] (by decide +kernel) rfl rfl rfl rfl ?_
  refine ev_iload_n (k0 := 1) rfl d_P_countIn_0 ?_
  refine ev_if_eq (tgt := 30) (by decide) d_P_countIn_1 (fun c => ?_) (fun c => ?_)
  · rw [if_pos c] at h
    refine ev_aload_n (k0 := 0) rfl d_P_countIn_30 ?_
    refine cv_get9 (.inr (0, off 9 0)) hG v_12 fg_ProphecyShop_47_12 rfl rfl d_P_countIn_31 ?_
    refine ev_iload_n (k0 := 1) rfl d_P_countIn_34 ?_
    obtain ⟨r1, hr1, h⟩ := bind_some9 h
    refine cv_V (d := d + 0) (mc1 := 0) (ms1 := 0) (mc := 0) (ms := 0) [.inl (.int x1)] hG (show vc 9 0 from (by decide : 0 < 12)) rfl lk_ProphecyShop_269 (w_Shop_countWithState (d + 0) (show vc 9 0 from (by decide : 0 < 12)) hG hr1) rfl rfl d_P_countIn_35 (aft_ro ?_)
    refine Ev.at (pc' := 38) rfl (Ev.cong (st' := [.inl (.int r1)]) ?_ rfl rfl)
    have hP := kE _ (Option.some.inj h).symm
    exact ev_ireturn (st := []) rfl rfl d_P_countIn_38 (by rw [hP]; exact ⟨rfl, rfl⟩)
  · rw [if_neg c] at h
    refine ev_iload_n (k0 := 1) rfl d_P_countIn_4 ?_
    refine cw_iconst 1 d_P_countIn_5 rfl ?_
    refine ev_icmp_eq (tgt := 30) (by decide) d_P_countIn_6 (fun c => ?_) (fun c => ?_)
    · rw [if_pos c] at h
      refine ev_aload_n (k0 := 0) rfl d_P_countIn_30 ?_
      refine cv_get9 (.inr (0, off 9 0)) hG v_12 fg_ProphecyShop_47_12 rfl rfl d_P_countIn_31 ?_
      refine ev_iload_n (k0 := 1) rfl d_P_countIn_34 ?_
      obtain ⟨r2, hr2, h⟩ := bind_some9 h
      refine cv_V (d := d + 0) (mc1 := 0) (ms1 := 0) (mc := 0) (ms := 0) [.inl (.int x1)] hG (show vc 9 0 from (by decide : 0 < 12)) rfl lk_ProphecyShop_269 (w_Shop_countWithState (d + 0) (show vc 9 0 from (by decide : 0 < 12)) hG hr2) rfl rfl d_P_countIn_35 (aft_ro ?_)
      refine Ev.at (pc' := 38) rfl (Ev.cong (st' := [.inl (.int r2)]) ?_ rfl rfl)
      have hP := kE _ (Option.some.inj h).symm
      exact ev_ireturn (st := []) rfl rfl d_P_countIn_38 (by rw [hP]; exact ⟨rfl, rfl⟩)
    · rw [if_neg c] at h
      refine ev_iload_n (k0 := 1) rfl d_P_countIn_9 ?_
      refine cw_iconst 2 d_P_countIn_10 rfl ?_
      refine ev_icmp_eq (tgt := 30) (by decide) d_P_countIn_11 (fun c => ?_) (fun c => ?_)
      · rw [if_pos c] at h
        refine ev_aload_n (k0 := 0) rfl d_P_countIn_30 ?_
        refine cv_get9 (.inr (0, off 9 0)) hG v_12 fg_ProphecyShop_47_12 rfl rfl d_P_countIn_31 ?_
        refine ev_iload_n (k0 := 1) rfl d_P_countIn_34 ?_
        obtain ⟨r3, hr3, h⟩ := bind_some9 h
        refine cv_V (d := d + 0) (mc1 := 0) (ms1 := 0) (mc := 0) (ms := 0) [.inl (.int x1)] hG (show vc 9 0 from (by decide : 0 < 12)) rfl lk_ProphecyShop_269 (w_Shop_countWithState (d + 0) (show vc 9 0 from (by decide : 0 < 12)) hG hr3) rfl rfl d_P_countIn_35 (aft_ro ?_)
        refine Ev.at (pc' := 38) rfl (Ev.cong (st' := [.inl (.int r3)]) ?_ rfl rfl)
        have hP := kE _ (Option.some.inj h).symm
        exact ev_ireturn (st := []) rfl rfl d_P_countIn_38 (by rw [hP]; exact ⟨rfl, rfl⟩)
      · rw [if_neg c] at h
        refine ev_iload_n (k0 := 1) rfl d_P_countIn_14 ?_
        refine cw_iconst 3 d_P_countIn_15 rfl ?_
        refine ev_icmp_eq (tgt := 30) (by decide) d_P_countIn_16 (fun c => ?_) (fun c => ?_)
        · rw [if_pos c] at h
          refine ev_aload_n (k0 := 0) rfl d_P_countIn_30 ?_
          refine cv_get9 (.inr (0, off 9 0)) hG v_12 fg_ProphecyShop_47_12 rfl rfl d_P_countIn_31 ?_
          refine ev_iload_n (k0 := 1) rfl d_P_countIn_34 ?_
          obtain ⟨r4, hr4, h⟩ := bind_some9 h
          refine cv_V (d := d + 0) (mc1 := 0) (ms1 := 0) (mc := 0) (ms := 0) [.inl (.int x1)] hG (show vc 9 0 from (by decide : 0 < 12)) rfl lk_ProphecyShop_269 (w_Shop_countWithState (d + 0) (show vc 9 0 from (by decide : 0 < 12)) hG hr4) rfl rfl d_P_countIn_35 (aft_ro ?_)
          refine Ev.at (pc' := 38) rfl (Ev.cong (st' := [.inl (.int r4)]) ?_ rfl rfl)
          have hP := kE _ (Option.some.inj h).symm
          exact ev_ireturn (st := []) rfl rfl d_P_countIn_38 (by rw [hP]; exact ⟨rfl, rfl⟩)
        · rw [if_neg c] at h
          cases h

/-- ProphecyShop.customerCount -/
def f_P_customerCount  (μ : Mem) : Option (Int32) :=
  chk (decide ((μ 12 0 3).toNatClampNeg < 2)) (some (μ 3 (3 * ((μ 12 0 3).toNatClampNeg) + 2) 1))
set_option maxRecDepth 100000 in
set_option maxHeartbeats 4000000 in
theorem w_P_customerCount {g : GL} {F G : RG} {nx : Nat} (d : Nat)  {μ : Mem}   {o : Int32} (hG : LM vc 0 535 μ F G) (h : f_P_customerCount  μ = some o) : Mt g (d + 0) m_P_customerCount [.inr (0, off 12 0)] (G, nx) 0 0 (pRO (rI o) (G, nx)) := by
  unfold f_P_customerCount at h
  have kE : ∀ v, o = v → pRO (rI o) (G, nx) = pRO (rI v) (G, nx) := fun v e => by subst e; rfl
  refine Mt.of9 [some (.inr (0, off 12 0))] (by decide +kernel) rfl rfl rfl rfl ?_
  refine ev_aload_n (k0 := 0) rfl d_P_customerCount_0 ?_
  obtain ⟨b1, h⟩ := chk_some h
  refine cv_get9 (.inr (0, off 7 ((μ 12 0 3).toNatClampNeg))) hG v_12 fg_ProphecyShop_35_12 rfl rfl d_P_customerCount_1 ?_
  refine cv_get9 (.inr (0, off 3 (3 * ((μ 12 0 3).toNatClampNeg) + 2))) hG (show vc 7 _ from dlt9 b1) fg_ProphecyShop_164_7 rfl rfl d_P_customerCount_4 ?_
  refine cv_get9 (.inl (.int (μ 3 (3 * ((μ 12 0 3).toNatClampNeg) + 2) 1))) hG (tv_7_7 (show vc 7 _ from dlt9 b1)) fg_ProphecyShop_156_3 rfl rfl d_P_customerCount_7 ?_
  have hP := kE _ (Option.some.inj h).symm
  exact ev_ireturn (st := []) rfl rfl d_P_customerCount_10 (by rw [hP]; exact ⟨rfl, rfl⟩)

/-- ProphecyShop.customerOf -/
def f_P_customerOf (x1 : Int32) (μ : Mem) : Option (Int32) :=
  ((f_P_prophecyWith x1 μ)).bind (fun r1 => chk (decide (r1 < 288)) (some (μ 5 r1 0)))
set_option maxRecDepth 100000 in
set_option maxHeartbeats 4000000 in
theorem w_P_customerOf {g : GL} {F G : RG} {nx : Nat} (d : Nat) {x1 : Int32} {μ : Mem}   {o : Int32} (hG : LM vc 0 535 μ F G) (h : f_P_customerOf x1 μ = some o) : Mt g (d + 3) m_P_customerOf [.inr (0, off 12 0), .inl (.int x1)] (G, nx) 0 0 (pRO (rI o) (G, nx)) := by
  unfold f_P_customerOf at h
  have kE : ∀ v, o = v → pRO (rI o) (G, nx) = pRO (rI v) (G, nx) := fun v e => by subst e; rfl
  refine Mt.of9 [some (.inr (0, off 12 0)), some (.inl (.int x1))] (by decide +kernel) rfl rfl rfl rfl ?_
  refine ev_aload_n (k0 := 0) rfl d_P_customerOf_0 ?_
  refine ev_iload_n (k0 := 1) rfl d_P_customerOf_1 ?_
  obtain ⟨r1, hr1, h⟩ := bind_some9 h
  refine cv_V (d := d + 2) (mc1 := 0) (ms1 := 0) (mc := 0) (ms := 0) [.inl (.int x1)] hG v_12 rfl lk_ProphecyShop_198 (w_P_prophecyWith (d + 0) hG hr1) rfl rfl d_P_customerOf_2 (aft_ro ?_)
  obtain ⟨b2, h⟩ := chk_some h
  refine Ev.at (pc' := 5) rfl (Ev.cong (st' := [.inr (0, off 5 r1)]) ?_ rfl rfl)
  refine cv_get9 (.inl (.int (μ 5 r1 0))) hG (show vc 5 _ from dlt9 b2) fg_ProphecyShop_202_5 rfl rfl d_P_customerOf_5 ?_
  have hP := kE _ (Option.some.inj h).symm
  exact ev_ireturn (st := []) rfl rfl d_P_customerOf_8 (by rw [hP]; exact ⟨rfl, rfl⟩)

/-- ProphecyShop.day -/
def f_P_day  (μ : Mem) : Option (Int32) :=
  some (μ 9 0 1)
set_option maxRecDepth 100000 in
set_option maxHeartbeats 4000000 in
theorem w_P_day {g : GL} {F G : RG} {nx : Nat} (d : Nat)  {μ : Mem}   {o : Int32} (hG : LM vc 0 535 μ F G) (h : f_P_day  μ = some o) : Mt g (d + 0) m_P_day [.inr (0, off 12 0)] (G, nx) 0 0 (pRO (rI o) (G, nx)) := by
  unfold f_P_day at h
  have kE : ∀ v, o = v → pRO (rI o) (G, nx) = pRO (rI v) (G, nx) := fun v e => by subst e; rfl
  refine Mt.of9 [some (.inr (0, off 12 0))] (by decide +kernel) rfl rfl rfl rfl ?_
  refine ev_aload_n (k0 := 0) rfl d_P_day_0 ?_
  refine cv_get9 (.inr (0, off 9 0)) hG v_12 fg_ProphecyShop_47_12 rfl rfl d_P_day_1 ?_
  refine cv_get9 (.inl (.int (μ 9 0 1))) hG (show vc 9 0 from (by decide : 0 < 12)) fg_ProphecyShop_146_9 rfl rfl d_P_day_4 ?_
  have hP := kE _ (Option.some.inj h).symm
  exact ev_ireturn (st := []) rfl rfl d_P_day_7 (by rw [hP]; exact ⟨rfl, rfl⟩)

/-- ProphecyShop.daysUntilDecided -/
def f_P_daysUntilDecided (x1 : Int32) (μ : Mem) : Option (Int32) :=
  ((f_P_prophecyWith x1 μ)).bind (fun r1 => chk (decide (r1 < 288)) (if (μ 5 r1 7) = 0 then (some (((μ 5 r1 5) + 1) - (μ 9 0 1))) else (some 0)))
set_option maxRecDepth 100000 in
set_option maxHeartbeats 4000000 in
theorem w_P_daysUntilDecided {g : GL} {F G : RG} {nx : Nat} (d : Nat) {x1 : Int32} {μ : Mem}   {o : Int32} (hG : LM vc 0 535 μ F G) (h : f_P_daysUntilDecided x1 μ = some o) : Mt g (d + 3) m_P_daysUntilDecided [.inr (0, off 12 0), .inl (.int x1)] (G, nx) 0 0 (pRO (rI o) (G, nx)) := by
  unfold f_P_daysUntilDecided at h
  have kE : ∀ v, o = v → pRO (rI o) (G, nx) = pRO (rI v) (G, nx) := fun v e => by subst e; rfl
  refine Mt.of9 [some (.inr (0, off 12 0)), some (.inl (.int x1)), none] (by decide +kernel) rfl rfl rfl rfl ?_
  refine ev_aload_n (k0 := 0) rfl d_P_daysUntilDecided_0 ?_
  refine ev_iload_n (k0 := 1) rfl d_P_daysUntilDecided_1 ?_
  obtain ⟨r1, hr1, h⟩ := bind_some9 h
  refine cv_V (d := d + 2) (mc1 := 0) (ms1 := 0) (mc := 0) (ms := 0) [.inl (.int x1)] hG v_12 rfl lk_ProphecyShop_198 (w_P_prophecyWith (d + 0) hG hr1) rfl rfl d_P_daysUntilDecided_2 (aft_ro ?_)
  obtain ⟨b2, h⟩ := chk_some h
  refine Ev.at (pc' := 5) rfl (Ev.cong (st' := [.inr (0, off 5 r1)]) ?_ rfl rfl)
  refine cw_astoreN_n 2 [some (.inr (0, off 12 0)), some (.inl (.int x1)), some (.inr (0, off 5 r1))] d_P_daysUntilDecided_5 rfl rfl rfl ?_
  refine ev_aload_n (k0 := 2) rfl d_P_daysUntilDecided_6 ?_
  refine cv_get9 (.inl (.int (μ 5 r1 7))) hG (show vc 5 _ from dlt9 b2) fg_ProphecyShop_222_5 rfl rfl d_P_daysUntilDecided_7 ?_
  refine ev_if_ne (tgt := 30) (by decide) d_P_daysUntilDecided_10 (fun c => ?_) (fun c => ?_)
  · rw [if_neg c] at h
    refine cw_iconst 0 d_P_daysUntilDecided_30 rfl ?_
    have hP := kE _ (Option.some.inj h).symm
    exact ev_ireturn (st := []) rfl rfl d_P_daysUntilDecided_31 (by rw [hP]; exact ⟨rfl, rfl⟩)
  · rw [if_pos c] at h
    refine ev_aload_n (k0 := 2) rfl d_P_daysUntilDecided_13 ?_
    refine cv_get9 (.inl (.int (μ 5 r1 5))) hG (show vc 5 _ from dlt9 b2) fg_ProphecyShop_219_5 rfl rfl d_P_daysUntilDecided_14 ?_
    refine cw_iconst 1 d_P_daysUntilDecided_17 rfl ?_
    refine ev_iadd d_P_daysUntilDecided_18 ?_
    refine ev_aload_n (k0 := 0) rfl d_P_daysUntilDecided_19 ?_
    refine cv_get9 (.inr (0, off 9 0)) hG v_12 fg_ProphecyShop_47_12 rfl rfl d_P_daysUntilDecided_20 ?_
    refine cv_get9 (.inl (.int (μ 9 0 1))) hG (show vc 9 0 from (by decide : 0 < 12)) fg_ProphecyShop_146_9 rfl rfl d_P_daysUntilDecided_23 ?_
    refine ev_isub d_P_daysUntilDecided_26 ?_
    refine ev_goto (tgt := 31) (by decide) d_P_daysUntilDecided_27 ?_
    have hP := kE _ (Option.some.inj h).symm
    exact ev_ireturn (st := []) rfl rfl d_P_daysUntilDecided_31 (by rw [hP]; exact ⟨rfl, rfl⟩)

/-- ProphecyShop.daysUntilRefunded -/
def s_P_daysUntilRefunded_33 (j2 : Nat) (x3 : Int32) (μ : Mem) : Option ((Int32 × Mem) ⊕ ((Mem) ⊕ (Int32 × Mem))) :=
  if (300 : Int32) < x3 then (some (.inr (.inl μ))) else (if (μ 5 j2 7) = 3 then (some (.inr (.inr ((x3, μ))))) else (((f_Shop_passDays 1 1 μ)).bind (fun r1 => some (.inl ((x3 + 1, r1.2))))))
def f_P_daysUntilRefunded (x1 : Int32) (μ : Mem) : Option (Int32 × Mem) :=
  ((f_Shop_hasSold 0 x1 μ)).bind (fun r1 => ((f_P_throwIfMissing r1 μ)).bind (fun r2 => ((f_Shop_copyFrom 1 0 μ)).bind (fun r3 => ((f_Shop_prophecyWith 1 x1 r3)).bind (fun r4 => chk (decide (r4 < 288)) ((it (fun (s : Int32 × Mem) => s_P_daysUntilRefunded_33 r4 s.1 s.2) LIM ((0, r3))).bind (fun q6 => els q6 (fun r7 => some (((-1), r7))) (fun v => some v)))))))
set_option maxRecDepth 100000 in
set_option maxHeartbeats 4000000 in
theorem ws_P_daysUntilRefunded_33 {g : GL} {F G : RG} {nx mc ms : Nat} {Post : RO → RM → Prop} (d : Nat) {j2 : Nat} {x3 : Int32} {μ : Mem} (hv2 : vc 5 j2)  {o : (Int32 × Mem) ⊕ ((Mem) ⊕ (Int32 × Mem))} (hG : LM vc 0 535 μ F G) (h : s_P_daysUntilRefunded_33 j2 x3 μ = some o)
    (kC : ∀ s', o = .inl s' → ∀ G, LM vc 0 535 s'.2 F G → Ev g (d + 5) m_P_daysUntilRefunded 33 [some (.inr (0, off 12 0)), none, some (.inr (0, off 5 j2)), some (.inl (.int s'.1))] [] (G, nx) mc ms Post)
    (kX : ∀ r, o = .inr (.inl r) → ∀ G, LM vc 0 535 r F G → Ev g (d + 5) m_P_daysUntilRefunded 65 [none, none, none, none] [] (G, nx) mc ms Post)
    (kE : ∀ v, o = .inr (.inr v) → Post = pRW vc 0 535 (rI v.1) v.2 F nx) : Ev g (d + 5) m_P_daysUntilRefunded 33 [some (.inr (0, off 12 0)), none, some (.inr (0, off 5 j2)), some (.inl (.int x3))] [] (G, nx) mc ms Post := by
  unfold s_P_daysUntilRefunded_33 at h
  refine ev_iload_n (k0 := 3) rfl d_P_daysUntilRefunded_33 ?_
  refine cw_sipush 300 d_P_daysUntilRefunded_34 rfl ?_
  refine ev_icmp_gt (tgt := 65) (by decide) d_P_daysUntilRefunded_37 (fun c => ?_) (fun c => ?_)
  · rw [if_pos c] at h
    exact Ev.sub (.n (.n (.n (.n LSb.z)))) (kX _ (Option.some.inj h).symm G hG)
  · rw [if_neg c] at h
    refine ev_aload_n (k0 := 2) rfl d_P_daysUntilRefunded_40 ?_
    refine cv_get9 (.inl (.int (μ 5 j2 7))) hG hv2 fg_ProphecyShop_222_5 rfl rfl d_P_daysUntilRefunded_41 ?_
    refine cw_iconst 3 d_P_daysUntilRefunded_44 rfl ?_
    refine ev_icmp_ne (tgt := 50) (by decide) d_P_daysUntilRefunded_45 (fun c => ?_) (fun c => ?_)
    · rw [if_neg c] at h
      refine ev_aload_n (k0 := 0) rfl d_P_daysUntilRefunded_50 ?_
      refine cv_get9 (.inr (0, off 9 1)) hG v_12 fg_ProphecyShop_51_12 rfl rfl d_P_daysUntilRefunded_51 ?_
      refine cw_iconst 1 d_P_daysUntilRefunded_54 rfl ?_
      obtain ⟨r1, hr1, h⟩ := bind_some9 h
      refine Ev.z9 ?_
      refine cv_V (d := d + 4) (mc1 := 0) (ms1 := 0) (mc := mc) (ms := ms) [.inl (.int 1)] hG (show vc 9 1 from (by decide : 1 < 12)) rfl lk_ProphecyShop_300 (w_Shop_passDays (d + 0) (show vc 9 1 from (by decide : 1 < 12)) hG hr1) rfl rfl d_P_daysUntilRefunded_55 (aft_rw (fun G hG => ?_))
      refine Ev.at (pc' := 58) rfl (Ev.cong (st' := [.inl (.int r1.1)]) ?_ rfl rfl)
      refine ev_pop rfl d_P_daysUntilRefunded_58 ?_
      refine cw_iincN 3 1 [some (.inr (0, off 12 0)), none, some (.inr (0, off 5 j2)), some (.inl (.int (x3 + 1)))] d_P_daysUntilRefunded_59 rfl rfl rfl rfl rfl ?_
      refine ev_goto (tgt := 33) (by decide) d_P_daysUntilRefunded_62 ?_
      exact kC _ (Option.some.inj h).symm G hG
    · rw [if_pos c] at h
      refine ev_iload_n (k0 := 3) rfl d_P_daysUntilRefunded_48 ?_
      have hP := kE _ (Option.some.inj h).symm
      exact ev_ireturn (st := []) rfl rfl d_P_daysUntilRefunded_49 (by rw [hP]; exact ⟨rfl, hG, rfl⟩)
set_option maxRecDepth 100000 in
set_option maxHeartbeats 4000000 in
theorem w_P_daysUntilRefunded {g : GL} {F G : RG} {nx : Nat} (d : Nat) {x1 : Int32} {μ : Mem}   {o : Int32 × Mem} (hG : LM vc 0 535 μ F G) (h : f_P_daysUntilRefunded x1 μ = some o) : Mt g (d + 5) m_P_daysUntilRefunded [.inr (0, off 12 0), .inl (.int x1)] (G, nx) 0 0 (pRW vc 0 535 (rI o.1) o.2 F nx) := by
  unfold f_P_daysUntilRefunded at h
  have kE : ∀ v, o = v → pRW vc 0 535 (rI o.1) o.2 F nx = pRW vc 0 535 (rI v.1) v.2 F nx := fun v e => by subst e; rfl
  refine Mt.of9 [some (.inr (0, off 12 0)), some (.inl (.int x1)), none, none] (by decide +kernel) rfl rfl rfl rfl ?_
  refine ev_aload_n (k0 := 0) rfl d_P_daysUntilRefunded_0 ?_
  refine cv_get9 (.inr (0, off 9 0)) hG v_12 fg_ProphecyShop_47_12 rfl rfl d_P_daysUntilRefunded_1 ?_
  refine ev_iload_n (k0 := 1) rfl d_P_daysUntilRefunded_4 ?_
  obtain ⟨r1, hr1, h⟩ := bind_some9 h
  refine cv_V (d := d + 4) (mc1 := 0) (ms1 := 0) (mc := 0) (ms := 0) [.inl (.int x1)] hG (show vc 9 0 from (by decide : 0 < 12)) rfl lk_ProphecyShop_240 (w_Shop_hasSold (d + 4) (show vc 9 0 from (by decide : 0 < 12)) hG hr1) rfl rfl d_P_daysUntilRefunded_5 (aft_ro ?_)
  refine Ev.at (pc' := 8) rfl (Ev.cong (st' := [.inl (.int r1)]) ?_ rfl rfl)
  obtain ⟨r2, hr2, h⟩ := bind_some9 h
  refine cw_S (d := d + 4) (mc1 := 0) (ms1 := 0) (mc := 0) (ms := 0) [.inl (.int r1)] lk_ProphecyShop_178 (w_P_throwIfMissing (d + 4) hG hr2) rfl rfl d_P_daysUntilRefunded_8 (aft_ro ?_)
  refine Ev.at (pc' := 11) rfl (Ev.cong (st' := []) ?_ rfl rfl)
  refine ev_aload_n (k0 := 0) rfl d_P_daysUntilRefunded_11 ?_
  refine cv_get9 (.inr (0, off 9 1)) hG v_12 fg_ProphecyShop_51_12 rfl rfl d_P_daysUntilRefunded_12 ?_
  refine ev_aload_n (k0 := 0) rfl d_P_daysUntilRefunded_15 ?_
  refine cv_get9 (.inr (0, off 9 0)) hG v_12 fg_ProphecyShop_47_12 rfl rfl d_P_daysUntilRefunded_16 ?_
  obtain ⟨r3, hr3, h⟩ := bind_some9 h
  refine cv_V (d := d + 4) (mc1 := 0) (ms1 := 0) (mc := 0) (ms := 0) [.inr (0, off 9 0)] hG (show vc 9 1 from (by decide : 1 < 12)) rfl lk_ProphecyShop_296 (w_Shop_copyFrom (d + 3) (show vc 9 1 from (by decide : 1 < 12)) (show vc 9 0 from (by decide : 0 < 12)) hG hr3) rfl rfl d_P_daysUntilRefunded_19 (aft_rw (fun G hG => ?_))
  refine Ev.at (pc' := 22) rfl (Ev.cong (st' := []) ?_ rfl rfl)
  refine ev_aload_n (k0 := 0) rfl d_P_daysUntilRefunded_22 ?_
  refine cv_get9 (.inr (0, off 9 1)) hG v_12 fg_ProphecyShop_51_12 rfl rfl d_P_daysUntilRefunded_23 ?_
  refine ev_iload_n (k0 := 1) rfl d_P_daysUntilRefunded_26 ?_
  obtain ⟨r4, hr4, h⟩ := bind_some9 h
  refine cv_V (d := d + 4) (mc1 := 0) (ms1 := 0) (mc := 0) (ms := 0) [.inl (.int x1)] hG (show vc 9 1 from (by decide : 1 < 12)) rfl lk_ProphecyShop_299 (w_Shop_prophecyWith (d + 3) (show vc 9 1 from (by decide : 1 < 12)) hG hr4) rfl rfl d_P_daysUntilRefunded_27 (aft_ro ?_)
  obtain ⟨b5, h⟩ := chk_some h
  refine Ev.at (pc' := 30) rfl (Ev.cong (st' := [.inr (0, off 5 r4)]) ?_ rfl rfl)
  refine cw_astoreN_n 2 [some (.inr (0, off 12 0)), some (.inl (.int x1)), some (.inr (0, off 5 r4)), none] d_P_daysUntilRefunded_30 rfl rfl rfl ?_
  refine cw_iconst 0 d_P_daysUntilRefunded_31 rfl ?_
  refine cw_istoreN_n 3 0 rfl [some (.inr (0, off 12 0)), some (.inl (.int x1)), some (.inr (0, off 5 r4)), some (.inl (.int 0))] d_P_daysUntilRefunded_32 rfl rfl rfl ?_
  obtain ⟨q6, hl, h⟩ := bind_some9 h
  refine Ev.sub (ls' := [some (.inr (0, off 12 0)), none, some (.inr (0, off 5 r4)), some (.inl (.int 0))]) (.s (.n (.s (.s LSb.z)))) ?_
  refine it_ev (W := fun (s : Int32 × Mem) => ∀ G, LM vc 0 535 s.2 F G → Ev g (d + 5) m_P_daysUntilRefunded 33 [some (.inr (0, off 12 0)), none, some (.inr (0, off 5 r4)), some (.inl (.int s.1))] [] (G, nx) 0 0 (pRW vc 0 535 (rI o.1) o.2 F nx)) (X := fun z => z = q6) rfl (fun s9 o9 hs kC9 kX9 => ?_) LIM _ hl G hG
  intro G hG
  refine ws_P_daysUntilRefunded_33 d (show vc 5 _ from dlt9 b5) hG hs kC9 (fun r7 e G hG => ?_) (fun v e => ?_)
  · obtain rfl := kX9 _ e
    rw [els_l] at h
    refine cw_iconst (-1) d_P_daysUntilRefunded_65 rfl ?_
    have hP := kE _ (Option.some.inj h).symm
    exact ev_ireturn (st := []) rfl rfl d_P_daysUntilRefunded_66 (by rw [hP]; exact ⟨rfl, hG, rfl⟩)
  · obtain rfl := kX9 _ e
    rw [els_r] at h
    exact kE _ (Option.some.inj h).symm

/-- ProphecyShop.decidedOn -/
def f_P_decidedOn (x1 : Int32) (μ : Mem) : Option (Int32) :=
  ((f_P_prophecyWith x1 μ)).bind (fun r1 => chk (decide (r1 < 288)) (if (μ 5 r1 7) = 0 then (none) else (some (μ 5 r1 8))))
set_option maxRecDepth 100000 in
set_option maxHeartbeats 4000000 in
theorem w_P_decidedOn {g : GL} {F G : RG} {nx : Nat} (d : Nat) {x1 : Int32} {μ : Mem}   {o : Int32} (hG : LM vc 0 535 μ F G) (h : f_P_decidedOn x1 μ = some o) : Mt g (d + 3) m_P_decidedOn [.inr (0, off 12 0), .inl (.int x1)] (G, nx) 0 0 (pRO (rI o) (G, nx)) := by
  unfold f_P_decidedOn at h
  have kE : ∀ v, o = v → pRO (rI o) (G, nx) = pRO (rI v) (G, nx) := fun v e => by subst e; rfl
  refine Mt.of9 [some (.inr (0, off 12 0)), some (.inl (.int x1)), none] (by decide +kernel) rfl rfl rfl rfl ?_
  refine ev_aload_n (k0 := 0) rfl d_P_decidedOn_0 ?_
  refine ev_iload_n (k0 := 1) rfl d_P_decidedOn_1 ?_
  obtain ⟨r1, hr1, h⟩ := bind_some9 h
  refine cv_V (d := d + 2) (mc1 := 0) (ms1 := 0) (mc := 0) (ms := 0) [.inl (.int x1)] hG v_12 rfl lk_ProphecyShop_198 (w_P_prophecyWith (d + 0) hG hr1) rfl rfl d_P_decidedOn_2 (aft_ro ?_)
  obtain ⟨b2, h⟩ := chk_some h
  refine Ev.at (pc' := 5) rfl (Ev.cong (st' := [.inr (0, off 5 r1)]) ?_ rfl rfl)
  refine cw_astoreN_n 2 [some (.inr (0, off 12 0)), some (.inl (.int x1)), some (.inr (0, off 5 r1))] d_P_decidedOn_5 rfl rfl rfl ?_
  refine ev_aload_n (k0 := 2) rfl d_P_decidedOn_6 ?_
  refine cv_get9 (.inl (.int (μ 5 r1 7))) hG (show vc 5 _ from dlt9 b2) fg_ProphecyShop_222_5 rfl rfl d_P_decidedOn_7 ?_
  refine ev_if_ne (tgt := 23) (by decide) d_P_decidedOn_10 (fun c => ?_) (fun c => ?_)
  · rw [if_neg c] at h
    refine ev_aload_n (k0 := 2) rfl d_P_decidedOn_23 ?_
    refine cv_get9 (.inl (.int (μ 5 r1 8))) hG (show vc 5 _ from dlt9 b2) fg_ProphecyShop_230_5 rfl rfl d_P_decidedOn_24 ?_
    have hP := kE _ (Option.some.inj h).symm
    exact ev_ireturn (st := []) rfl rfl d_P_decidedOn_27 (by rw [hP]; exact ⟨rfl, rfl⟩)
  · rw [if_pos c] at h
    cases h

/-- ProphecyShop.errorPosition -/
def f_P_errorPosition  (μ : Mem) : Option (Int32) :=
  some (μ 12 0 11)
set_option maxRecDepth 100000 in
set_option maxHeartbeats 4000000 in
theorem w_P_errorPosition {g : GL} {F G : RG} {nx : Nat} (d : Nat)  {μ : Mem}   {o : Int32} (hG : LM vc 0 535 μ F G) (h : f_P_errorPosition  μ = some o) : Mt g (d + 0) m_P_errorPosition [.inr (0, off 12 0)] (G, nx) 0 0 (pRO (rI o) (G, nx)) := by
  unfold f_P_errorPosition at h
  have kE : ∀ v, o = v → pRO (rI o) (G, nx) = pRO (rI v) (G, nx) := fun v e => by subst e; rfl
  refine Mt.of9 [some (.inr (0, off 12 0))] (by decide +kernel) rfl rfl rfl rfl ?_
  refine ev_aload_n (k0 := 0) rfl d_P_errorPosition_0 ?_
  refine cv_get9 (.inl (.int (μ 12 0 11))) hG v_12 fg_ProphecyShop_73_12 rfl rfl d_P_errorPosition_1 ?_
  have hP := kE _ (Option.some.inj h).symm
  exact ev_ireturn (st := []) rfl rfl d_P_errorPosition_4 (by rw [hP]; exact ⟨rfl, rfl⟩)

/-- ProphecyShop.eventCount -/
def f_P_eventCount  (μ : Mem) : Option (Int32) :=
  chk (decide ((μ 12 0 3).toNatClampNeg < 2)) (some (μ 3 (3 * ((μ 12 0 3).toNatClampNeg)) 1))
set_option maxRecDepth 100000 in
set_option maxHeartbeats 4000000 in
theorem w_P_eventCount {g : GL} {F G : RG} {nx : Nat} (d : Nat)  {μ : Mem}   {o : Int32} (hG : LM vc 0 535 μ F G) (h : f_P_eventCount  μ = some o) : Mt g (d + 0) m_P_eventCount [.inr (0, off 12 0)] (G, nx) 0 0 (pRO (rI o) (G, nx)) := by
  unfold f_P_eventCount at h
  have kE : ∀ v, o = v → pRO (rI o) (G, nx) = pRO (rI v) (G, nx) := fun v e => by subst e; rfl
  refine Mt.of9 [some (.inr (0, off 12 0))] (by decide +kernel) rfl rfl rfl rfl ?_
  refine ev_aload_n (k0 := 0) rfl d_P_eventCount_0 ?_
  obtain ⟨b1, h⟩ := chk_some h
  refine cv_get9 (.inr (0, off 7 ((μ 12 0 3).toNatClampNeg))) hG v_12 fg_ProphecyShop_35_12 rfl rfl d_P_eventCount_1 ?_
  refine cv_get9 (.inr (0, off 3 (3 * ((μ 12 0 3).toNatClampNeg)))) hG (show vc 7 _ from dlt9 b1) fg_ProphecyShop_152_7 rfl rfl d_P_eventCount_4 ?_
  refine cv_get9 (.inl (.int (μ 3 (3 * ((μ 12 0 3).toNatClampNeg)) 1))) hG (tv_7_5 (show vc 7 _ from dlt9 b1)) fg_ProphecyShop_156_3 rfl rfl d_P_eventCount_7 ?_
  have hP := kE _ (Option.some.inj h).symm
  exact ev_ireturn (st := []) rfl rfl d_P_eventCount_10 (by rw [hP]; exact ⟨rfl, rfl⟩)

/-- ProphecyShop.eventOf -/
def f_P_eventOf (x1 : Int32) (μ : Mem) : Option (Int32) :=
  ((f_P_prophecyWith x1 μ)).bind (fun r1 => chk (decide (r1 < 288)) (some (μ 5 r1 2)))
set_option maxRecDepth 100000 in
set_option maxHeartbeats 4000000 in
theorem w_P_eventOf {g : GL} {F G : RG} {nx : Nat} (d : Nat) {x1 : Int32} {μ : Mem}   {o : Int32} (hG : LM vc 0 535 μ F G) (h : f_P_eventOf x1 μ = some o) : Mt g (d + 3) m_P_eventOf [.inr (0, off 12 0), .inl (.int x1)] (G, nx) 0 0 (pRO (rI o) (G, nx)) := by
  unfold f_P_eventOf at h
  have kE : ∀ v, o = v → pRO (rI o) (G, nx) = pRO (rI v) (G, nx) := fun v e => by subst e; rfl
  refine Mt.of9 [some (.inr (0, off 12 0)), some (.inl (.int x1))] (by decide +kernel) rfl rfl rfl rfl ?_
  refine ev_aload_n (k0 := 0) rfl d_P_eventOf_0 ?_
  refine ev_iload_n (k0 := 1) rfl d_P_eventOf_1 ?_
  obtain ⟨r1, hr1, h⟩ := bind_some9 h
  refine cv_V (d := d + 2) (mc1 := 0) (ms1 := 0) (mc := 0) (ms := 0) [.inl (.int x1)] hG v_12 rfl lk_ProphecyShop_198 (w_P_prophecyWith (d + 0) hG hr1) rfl rfl d_P_eventOf_2 (aft_ro ?_)
  obtain ⟨b2, h⟩ := chk_some h
  refine Ev.at (pc' := 5) rfl (Ev.cong (st' := [.inr (0, off 5 r1)]) ?_ rfl rfl)
  refine cv_get9 (.inl (.int (μ 5 r1 2))) hG (show vc 5 _ from dlt9 b2) fg_ProphecyShop_207_5 rfl rfl d_P_eventOf_5 ?_
  have hP := kE _ (Option.some.inj h).symm
  exact ev_ireturn (st := []) rfl rfl d_P_eventOf_8 (by rw [hP]; exact ⟨rfl, rfl⟩)

/-- ProphecyShop.expectedAnswer -/
def f_P_expectedAnswer (x1 : Int32) (μ : Mem) : Option (Int32) :=
  ((f_P_prophecyWith x1 μ)).bind (fun r1 => chk (decide (r1 < 288)) (((f_Shop_answerTo 0 r1 μ)).bind (fun r3 => some r3)))
set_option maxRecDepth 100000 in
set_option maxHeartbeats 4000000 in
theorem w_P_expectedAnswer {g : GL} {F G : RG} {nx : Nat} (d : Nat) {x1 : Int32} {μ : Mem}   {o : Int32} (hG : LM vc 0 535 μ F G) (h : f_P_expectedAnswer x1 μ = some o) : Mt g (d + 3) m_P_expectedAnswer [.inr (0, off 12 0), .inl (.int x1)] (G, nx) 0 0 (pRO (rI o) (G, nx)) := by
  unfold f_P_expectedAnswer at h
  have kE : ∀ v, o = v → pRO (rI o) (G, nx) = pRO (rI v) (G, nx) := fun v e => by subst e; rfl
  refine Mt.of9 [some (.inr (0, off 12 0)), some (.inl (.int x1))] (by decide +kernel) rfl rfl rfl rfl ?_
  refine ev_aload_n (k0 := 0) rfl d_P_expectedAnswer_0 ?_
  refine cv_get9 (.inr (0, off 9 0)) hG v_12 fg_ProphecyShop_47_12 rfl rfl d_P_expectedAnswer_1 ?_
  refine ev_aload_n (k0 := 0) rfl d_P_expectedAnswer_4 ?_
  refine ev_iload_n (k0 := 1) rfl d_P_expectedAnswer_5 ?_
  obtain ⟨r1, hr1, h⟩ := bind_some9 h
  refine cv_V (d := d + 2) (mc1 := 0) (ms1 := 0) (mc := 0) (ms := 0) [.inl (.int x1)] hG v_12 rfl lk_ProphecyShop_198 (w_P_prophecyWith (d + 0) hG hr1) rfl rfl d_P_expectedAnswer_6 (aft_ro ?_)
  obtain ⟨b2, h⟩ := chk_some h
  refine Ev.at (pc' := 9) rfl (Ev.cong (st' := [.inr (0, off 5 r1), .inr (0, off 9 0)]) ?_ rfl rfl)
  obtain ⟨r3, hr3, h⟩ := bind_some9 h
  refine cv_V (d := d + 2) (mc1 := 0) (ms1 := 0) (mc := 0) (ms := 0) [.inr (0, off 5 r1)] hG (show vc 9 0 from (by decide : 0 < 12)) rfl lk_ProphecyShop_249 (w_Shop_answerTo (d + 1) (show vc 9 0 from (by decide : 0 < 12)) (show vc 5 _ from dlt9 b2) hG hr3) rfl rfl d_P_expectedAnswer_9 (aft_ro ?_)
  refine Ev.at (pc' := 12) rfl (Ev.cong (st' := [.inl (.int r3)]) ?_ rfl rfl)
  have hP := kE _ (Option.some.inj h).symm
  exact ev_ireturn (st := []) rfl rfl d_P_expectedAnswer_12 (by rw [hP]; exact ⟨rfl, rfl⟩)

/-- ProphecyShop.firstDay -/
def f_P_firstDay (x1 : Int32) (μ : Mem) : Option (Int32) :=
  ((f_P_prophecyWith x1 μ)).bind (fun r1 => chk (decide (r1 < 288)) (some (μ 5 r1 4)))
set_option maxRecDepth 100000 in
set_option maxHeartbeats 4000000 in
theorem w_P_firstDay {g : GL} {F G : RG} {nx : Nat} (d : Nat) {x1 : Int32} {μ : Mem}   {o : Int32} (hG : LM vc 0 535 μ F G) (h : f_P_firstDay x1 μ = some o) : Mt g (d + 3) m_P_firstDay [.inr (0, off 12 0), .inl (.int x1)] (G, nx) 0 0 (pRO (rI o) (G, nx)) := by
  unfold f_P_firstDay at h
  have kE : ∀ v, o = v → pRO (rI o) (G, nx) = pRO (rI v) (G, nx) := fun v e => by subst e; rfl
  refine Mt.of9 [some (.inr (0, off 12 0)), some (.inl (.int x1))] (by decide +kernel) rfl rfl rfl rfl ?_
  refine ev_aload_n (k0 := 0) rfl d_P_firstDay_0 ?_
  refine ev_iload_n (k0 := 1) rfl d_P_firstDay_1 ?_
  obtain ⟨r1, hr1, h⟩ := bind_some9 h
  refine cv_V (d := d + 2) (mc1 := 0) (ms1 := 0) (mc := 0) (ms := 0) [.inl (.int x1)] hG v_12 rfl lk_ProphecyShop_198 (w_P_prophecyWith (d + 0) hG hr1) rfl rfl d_P_firstDay_2 (aft_ro ?_)
  obtain ⟨b2, h⟩ := chk_some h
  refine Ev.at (pc' := 5) rfl (Ev.cong (st' := [.inr (0, off 5 r1)]) ?_ rfl rfl)
  refine cv_get9 (.inl (.int (μ 5 r1 4))) hG (show vc 5 _ from dlt9 b2) fg_ProphecyShop_216_5 rfl rfl d_P_firstDay_5 ?_
  have hP := kE _ (Option.some.inj h).symm
  exact ev_ireturn (st := []) rfl rfl d_P_firstDay_8 (by rw [hP]; exact ⟨rfl, rfl⟩)

/-- ProphecyShop.handledRequests -/
def f_P_handledRequests  (μ : Mem) : Option (Int32) :=
  some (μ 9 0 13)
set_option maxRecDepth 100000 in
set_option maxHeartbeats 4000000 in
theorem w_P_handledRequests {g : GL} {F G : RG} {nx : Nat} (d : Nat)  {μ : Mem}   {o : Int32} (hG : LM vc 0 535 μ F G) (h : f_P_handledRequests  μ = some o) : Mt g (d + 0) m_P_handledRequests [.inr (0, off 12 0)] (G, nx) 0 0 (pRO (rI o) (G, nx)) := by
  unfold f_P_handledRequests at h
  have kE : ∀ v, o = v → pRO (rI o) (G, nx) = pRO (rI v) (G, nx) := fun v e => by subst e; rfl
  refine Mt.of9 [some (.inr (0, off 12 0))] (by decide +kernel) rfl rfl rfl rfl ?_
  refine ev_aload_n (k0 := 0) rfl d_P_handledRequests_0 ?_
  refine cv_get9 (.inr (0, off 9 0)) hG v_12 fg_ProphecyShop_47_12 rfl rfl d_P_handledRequests_1 ?_
  refine cv_get9 (.inl (.int (μ 9 0 13))) hG (show vc 9 0 from (by decide : 0 < 12)) fg_ProphecyShop_272_9 rfl rfl d_P_handledRequests_4 ?_
  have hP := kE _ (Option.some.inj h).symm
  exact ev_ireturn (st := []) rfl rfl d_P_handledRequests_7 (by rw [hP]; exact ⟨rfl, rfl⟩)

/-- ProphecyShop$Shop.isNoted -/
def s_Shop_isNoted_3 (j0 : Nat) (x1 : Int32) (x2 : Int32) (x3 : Int32) (x4 : Int32) (μ : Mem) : Option ((Int32) ⊕ ((Unit) ⊕ (Int32))) :=
  if (μ 9 j0 12) ≤ x4 then (some (.inr (.inl (())))) else (chk (inb x4 60) (if (μ 31 j0 x4.toNatClampNeg) = x1 then (chk (inb x4 60) (if (μ 32 j0 x4.toNatClampNeg) = x2 then (chk (inb x4 60) (if (μ 33 j0 x4.toNatClampNeg) = x3 then (some (.inr (.inr 1))) else (some (.inl (x4 + 1))))) else (some (.inl (x4 + 1))))) else (some (.inl (x4 + 1)))))
def f_Shop_isNoted (j0 : Nat) (x1 : Int32) (x2 : Int32) (x3 : Int32) (μ : Mem) : Option (Int32) :=
  (it (fun (s : Int32) => s_Shop_isNoted_3 j0 x1 x2 x3 s μ) LIM 0).bind (fun q1 => els q1 (fun r2 => some 0) (fun v => some v))
set_option maxRecDepth 100000 in
set_option maxHeartbeats 4000000 in
theorem ws_Shop_isNoted_3 {g : GL} {F G : RG} {nx mc ms : Nat} {Post : RO → RM → Prop} (d : Nat) {j0 : Nat} {x1 : Int32} {x2 : Int32} {x3 : Int32} {x4 : Int32} {μ : Mem} (hv0 : vc 9 j0)  {o : (Int32) ⊕ ((Unit) ⊕ (Int32))} (hG : LM vc 0 535 μ F G) (h : s_Shop_isNoted_3 j0 x1 x2 x3 x4 μ = some o)
    (kC : ∀ s', o = .inl s' → Ev g (d + 0) m_Shop_isNoted 3 [some (.inr (0, off 9 j0)), some (.inl (.int x1)), some (.inl (.int x2)), some (.inl (.int x3)), some (.inl (.int s'))] [] (G, nx) mc ms Post)
    (kX : ∀ r, o = .inr (.inl r) → Ev g (d + 0) m_Shop_isNoted 53 [none, none, none, none, none] [] (G, nx) mc ms Post)
    (kE : ∀ v, o = .inr (.inr v) → Post = pRO (rI v) (G, nx)) : Ev g (d + 0) m_Shop_isNoted 3 [some (.inr (0, off 9 j0)), some (.inl (.int x1)), some (.inl (.int x2)), some (.inl (.int x3)), some (.inl (.int x4))] [] (G, nx) mc ms Post := by
  unfold s_Shop_isNoted_3 at h
  refine ev_iload (i := 4) rfl d_Shop_isNoted_3 ?_
  refine ev_aload_n (k0 := 0) rfl d_Shop_isNoted_5 ?_
  refine cv_get9 (.inl (.int (μ 9 j0 12))) hG hv0 fg_Shop_52_9 rfl rfl d_Shop_isNoted_6 ?_
  refine ev_icmp_ge (tgt := 53) (by decide) d_Shop_isNoted_9 (fun c => ?_) (fun c => ?_)
  · rw [if_pos c] at h
    exact Ev.sub (.n (.n (.n (.n (.n LSb.z))))) (kX _ (Option.some.inj h).symm)
  · rw [if_neg c] at h
    refine ev_aload_n (k0 := 0) rfl d_Shop_isNoted_12 ?_
    refine cv_get9 (.inr (0, off 31 j0)) hG hv0 fg_Shop_43_9 rfl rfl d_Shop_isNoted_13 ?_
    refine ev_iload (i := 4) rfl d_Shop_isNoted_16 ?_
    obtain ⟨b1, h⟩ := chk_some h
    refine cv_iald hG (tv_9_9 hv0) rfl rfl b1 rfl d_Shop_isNoted_18 ?_
    refine ev_iload_n (k0 := 1) rfl d_Shop_isNoted_19 ?_
    refine ev_icmp_ne (tgt := 47) (by decide) d_Shop_isNoted_20 (fun c => ?_) (fun c => ?_)
    · rw [if_neg c] at h
      refine cw_iincN 4 1 [some (.inr (0, off 9 j0)), some (.inl (.int x1)), some (.inl (.int x2)), some (.inl (.int x3)), some (.inl (.int (x4 + 1)))] d_Shop_isNoted_47 rfl rfl rfl rfl rfl ?_
      refine ev_goto (tgt := 3) (by decide) d_Shop_isNoted_50 ?_
      exact kC _ (Option.some.inj h).symm
    · rw [if_pos c] at h
      refine ev_aload_n (k0 := 0) rfl d_Shop_isNoted_23 ?_
      refine cv_get9 (.inr (0, off 32 j0)) hG hv0 fg_Shop_46_9 rfl rfl d_Shop_isNoted_24 ?_
      refine ev_iload (i := 4) rfl d_Shop_isNoted_27 ?_
      obtain ⟨b2, h⟩ := chk_some h
      refine cv_iald hG (tv_9_10 hv0) rfl rfl b2 rfl d_Shop_isNoted_29 ?_
      refine ev_iload_n (k0 := 2) rfl d_Shop_isNoted_30 ?_
      refine ev_icmp_ne (tgt := 47) (by decide) d_Shop_isNoted_31 (fun c => ?_) (fun c => ?_)
      · rw [if_neg c] at h
        refine cw_iincN 4 1 [some (.inr (0, off 9 j0)), some (.inl (.int x1)), some (.inl (.int x2)), some (.inl (.int x3)), some (.inl (.int (x4 + 1)))] d_Shop_isNoted_47 rfl rfl rfl rfl rfl ?_
        refine ev_goto (tgt := 3) (by decide) d_Shop_isNoted_50 ?_
        exact kC _ (Option.some.inj h).symm
      · rw [if_pos c] at h
        refine ev_aload_n (k0 := 0) rfl d_Shop_isNoted_34 ?_
        refine cv_get9 (.inr (0, off 33 j0)) hG hv0 fg_Shop_49_9 rfl rfl d_Shop_isNoted_35 ?_
        refine ev_iload (i := 4) rfl d_Shop_isNoted_38 ?_
        obtain ⟨b3, h⟩ := chk_some h
        refine cv_iald hG (tv_9_11 hv0) rfl rfl b3 rfl d_Shop_isNoted_40 ?_
        refine ev_iload_n (k0 := 3) rfl d_Shop_isNoted_41 ?_
        refine ev_icmp_ne (tgt := 47) (by decide) d_Shop_isNoted_42 (fun c => ?_) (fun c => ?_)
        · rw [if_neg c] at h
          refine cw_iincN 4 1 [some (.inr (0, off 9 j0)), some (.inl (.int x1)), some (.inl (.int x2)), some (.inl (.int x3)), some (.inl (.int (x4 + 1)))] d_Shop_isNoted_47 rfl rfl rfl rfl rfl ?_
          refine ev_goto (tgt := 3) (by decide) d_Shop_isNoted_50 ?_
          exact kC _ (Option.some.inj h).symm
        · rw [if_pos c] at h
          refine cw_iconst 1 d_Shop_isNoted_45 rfl ?_
          have hP := kE _ (Option.some.inj h).symm
          exact ev_ireturn (st := []) rfl rfl d_Shop_isNoted_46 (by rw [hP]; exact ⟨rfl, rfl⟩)
set_option maxRecDepth 100000 in
set_option maxHeartbeats 4000000 in
theorem w_Shop_isNoted {g : GL} {F G : RG} {nx : Nat} (d : Nat) {j0 : Nat} {x1 : Int32} {x2 : Int32} {x3 : Int32} {μ : Mem} (hv0 : vc 9 j0)  {o : Int32} (hG : LM vc 0 535 μ F G) (h : f_Shop_isNoted j0 x1 x2 x3 μ = some o) : Mt g (d + 0) m_Shop_isNoted [.inr (0, off 9 j0), .inl (.int x1), .inl (.int x2), .inl (.int x3)] (G, nx) 0 0 (pRO (rI o) (G, nx)) := by
  unfold f_Shop_isNoted at h
  have kE : ∀ v, o = v → pRO (rI o) (G, nx) = pRO (rI v) (G, nx) := fun v e => by subst e; rfl
  refine Mt.of9 [some (.inr (0, off 9 j0)), some (.inl (.int x1)), some (.inl (.int x2)), some (.inl (.int x3)), none] (by decide +kernel) rfl rfl rfl rfl ?_
  refine cw_iconst 0 d_Shop_isNoted_0 rfl ?_
  refine cw_istoreN 4 0 rfl [some (.inr (0, off 9 j0)), some (.inl (.int x1)), some (.inl (.int x2)), some (.inl (.int x3)), some (.inl (.int 0))] d_Shop_isNoted_1 rfl rfl rfl ?_
  obtain ⟨q1, hl, h⟩ := bind_some9 h
  refine it_ev (W := fun (s : Int32) => Ev g (d + 0) m_Shop_isNoted 3 [some (.inr (0, off 9 j0)), some (.inl (.int x1)), some (.inl (.int x2)), some (.inl (.int x3)), some (.inl (.int s))] [] (G, nx) 0 0 (pRO (rI o) (G, nx))) (X := fun z => z = q1) rfl (fun s9 o9 hs kC9 kX9 => ?_) LIM _ hl
  refine ws_Shop_isNoted_3 d hv0 hG hs kC9 (fun r2 e => ?_) (fun v e => ?_)
  · obtain rfl := kX9 _ e
    rw [els_l] at h
    refine cw_iconst 0 d_Shop_isNoted_53 rfl ?_
    have hP := kE _ (Option.some.inj h).symm
    exact ev_ireturn (st := []) rfl rfl d_Shop_isNoted_54 (by rw [hP]; exact ⟨rfl, rfl⟩)
  · obtain rfl := kX9 _ e
    rw [els_r] at h
    exact kE _ (Option.some.inj h).symm

/-- ProphecyShop$Shop.faultOfHappening -/
def f_Shop_faultOfHappening (j0 : Nat) (x1 : Int32) (x2 : Int32) (μ : Mem) : Option (Int32) :=
  chk (decide ((μ 9 j0 0).toNatClampNeg < 2)) (((f_Names_has (3 * ((μ 9 j0 0).toNatClampNeg)) x1 μ)).bind (fun r2 => if r2 = 0 then some 1 else (chk (decide ((μ 9 j0 0).toNatClampNeg < 2)) (((f_Names_has (3 * ((μ 9 j0 0).toNatClampNeg) + 1) x2 μ)).bind (fun r4 => if r4 = 0 then some 1 else (if (60 : Int32) ≤ (μ 9 j0 12) then some 3 else (((f_Shop_isNoted j0 x1 x2 (μ 9 j0 1) μ)).bind (fun r5 => if r5 = 0 then some 0 else (some 3)))))))))
set_option maxRecDepth 100000 in
set_option maxHeartbeats 4000000 in
theorem w_Shop_faultOfHappening {g : GL} {F G : RG} {nx : Nat} (d : Nat) {j0 : Nat} {x1 : Int32} {x2 : Int32} {μ : Mem} (hv0 : vc 9 j0)  {o : Int32} (hG : LM vc 0 535 μ F G) (h : f_Shop_faultOfHappening j0 x1 x2 μ = some o) : Mt g (d + 1) m_Shop_faultOfHappening [.inr (0, off 9 j0), .inl (.int x1), .inl (.int x2)] (G, nx) 0 0 (pRO (rI o) (G, nx)) := by
  unfold f_Shop_faultOfHappening at h
  have kE : ∀ v, o = v → pRO (rI o) (G, nx) = pRO (rI v) (G, nx) := fun v e => by subst e; rfl
  refine Mt.of9 [some (.inr (0, off 9 j0)), some (.inl (.int x1)), some (.inl (.int x2))] (by decide +kernel) rfl rfl rfl rfl ?_
  refine ev_aload_n (k0 := 0) rfl d_Shop_faultOfHappening_0 ?_
  obtain ⟨b1, h⟩ := chk_some h
  refine cv_get9 (.inr (0, off 7 ((μ 9 j0 0).toNatClampNeg))) hG hv0 fg_Shop_61_9 rfl rfl d_Shop_faultOfHappening_1 ?_
  refine cv_get9 (.inr (0, off 3 (3 * ((μ 9 j0 0).toNatClampNeg)))) hG (show vc 7 _ from dlt9 b1) fg_Shop_106_7 rfl rfl d_Shop_faultOfHappening_4 ?_
  refine ev_iload_n (k0 := 1) rfl d_Shop_faultOfHappening_7 ?_
  obtain ⟨r2, hr2, h⟩ := bind_some9 h
  refine cv_V (d := d + 0) (mc1 := 0) (ms1 := 0) (mc := 0) (ms := 0) [.inl (.int x1)] hG (tv_7_5 (show vc 7 _ from dlt9 b1)) rfl lk_Shop_98 (w_Names_has (d + 0) (tv_7_5 (show vc 7 _ from dlt9 b1)) hG hr2) rfl rfl d_Shop_faultOfHappening_8 (aft_ro ?_)
  refine Ev.at (pc' := 11) rfl (Ev.cong (st' := [.inl (.int r2)]) ?_ rfl rfl)
  refine ev_if_eq (tgt := 28) (by decide) d_Shop_faultOfHappening_11 (fun c => ?_) (fun c => ?_)
  · rw [if_pos c] at h
    refine cw_iconst 1 d_Shop_faultOfHappening_28 rfl ?_
    have hP := kE _ (Option.some.inj h).symm
    exact ev_ireturn (st := []) rfl rfl d_Shop_faultOfHappening_29 (by rw [hP]; exact ⟨rfl, rfl⟩)
  · rw [if_neg c] at h
    refine ev_aload_n (k0 := 0) rfl d_Shop_faultOfHappening_14 ?_
    obtain ⟨b3, h⟩ := chk_some h
    refine cv_get9 (.inr (0, off 7 ((μ 9 j0 0).toNatClampNeg))) hG hv0 fg_Shop_61_9 rfl rfl d_Shop_faultOfHappening_15 ?_
    refine cv_get9 (.inr (0, off 3 (3 * ((μ 9 j0 0).toNatClampNeg) + 1))) hG (show vc 7 _ from dlt9 b3) fg_Shop_94_7 rfl rfl d_Shop_faultOfHappening_18 ?_
    refine ev_iload_n (k0 := 2) rfl d_Shop_faultOfHappening_21 ?_
    obtain ⟨r4, hr4, h⟩ := bind_some9 h
    refine cv_V (d := d + 0) (mc1 := 0) (ms1 := 0) (mc := 0) (ms := 0) [.inl (.int x2)] hG (tv_7_6 (show vc 7 _ from dlt9 b3)) rfl lk_Shop_98 (w_Names_has (d + 0) (tv_7_6 (show vc 7 _ from dlt9 b3)) hG hr4) rfl rfl d_Shop_faultOfHappening_22 (aft_ro ?_)
    refine Ev.at (pc' := 25) rfl (Ev.cong (st' := [.inl (.int r4)]) ?_ rfl rfl)
    refine ev_if_ne (tgt := 30) (by decide) d_Shop_faultOfHappening_25 (fun c => ?_) (fun c => ?_)
    · rw [if_neg c] at h
      refine ev_aload_n (k0 := 0) rfl d_Shop_faultOfHappening_30 ?_
      refine cv_get9 (.inl (.int (μ 9 j0 12))) hG hv0 fg_Shop_52_9 rfl rfl d_Shop_faultOfHappening_31 ?_
      refine cw_bipush 60 d_Shop_faultOfHappening_34 rfl ?_
      refine ev_icmp_ge (tgt := 52) (by decide) d_Shop_faultOfHappening_36 (fun c => ?_) (fun c => ?_)
      · rw [if_pos c] at h
        refine cw_iconst 3 d_Shop_faultOfHappening_52 rfl ?_
        refine ev_goto (tgt := 57) (by decide) d_Shop_faultOfHappening_53 ?_
        have hP := kE _ (Option.some.inj h).symm
        exact ev_ireturn (st := []) rfl rfl d_Shop_faultOfHappening_57 (by rw [hP]; exact ⟨rfl, rfl⟩)
      · rw [if_neg c] at h
        refine ev_aload_n (k0 := 0) rfl d_Shop_faultOfHappening_39 ?_
        refine ev_iload_n (k0 := 1) rfl d_Shop_faultOfHappening_40 ?_
        refine ev_iload_n (k0 := 2) rfl d_Shop_faultOfHappening_41 ?_
        refine ev_aload_n (k0 := 0) rfl d_Shop_faultOfHappening_42 ?_
        refine cv_get9 (.inl (.int (μ 9 j0 1))) hG hv0 fg_Shop_9_9 rfl rfl d_Shop_faultOfHappening_43 ?_
        obtain ⟨r5, hr5, h⟩ := bind_some9 h
        refine cv_V (d := d + 0) (mc1 := 0) (ms1 := 0) (mc := 0) (ms := 0) [.inl (.int x1), .inl (.int x2), .inl (.int (μ 9 j0 1))] hG hv0 rfl lk_Shop_151 (w_Shop_isNoted (d + 0) hv0 hG hr5) rfl rfl d_Shop_faultOfHappening_46 (aft_ro ?_)
        refine Ev.at (pc' := 49) rfl (Ev.cong (st' := [.inl (.int r5)]) ?_ rfl rfl)
        refine ev_if_eq (tgt := 56) (by decide) d_Shop_faultOfHappening_49 (fun c => ?_) (fun c => ?_)
        · rw [if_pos c] at h
          refine cw_iconst 0 d_Shop_faultOfHappening_56 rfl ?_
          have hP := kE _ (Option.some.inj h).symm
          exact ev_ireturn (st := []) rfl rfl d_Shop_faultOfHappening_57 (by rw [hP]; exact ⟨rfl, rfl⟩)
        · rw [if_neg c] at h
          refine cw_iconst 3 d_Shop_faultOfHappening_52 rfl ?_
          refine ev_goto (tgt := 57) (by decide) d_Shop_faultOfHappening_53 ?_
          have hP := kE _ (Option.some.inj h).symm
          exact ev_ireturn (st := []) rfl rfl d_Shop_faultOfHappening_57 (by rw [hP]; exact ⟨rfl, rfl⟩)
    · rw [if_pos c] at h
      refine cw_iconst 1 d_Shop_faultOfHappening_28 rfl ?_
      have hP := kE _ (Option.some.inj h).symm
      exact ev_ireturn (st := []) rfl rfl d_Shop_faultOfHappening_29 (by rw [hP]; exact ⟨rfl, rfl⟩)

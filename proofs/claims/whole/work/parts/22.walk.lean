/-- ProphecyShop$Owl.rest -/
def f_Owl_rest (j0 : Nat) (μ : Mem) : Option (Mem) :=
  nm (st3 μ 4 j0 0 0) (fun μ1 => nm (st3 μ1 4 j0 1 0) (fun μ2 => nm (st3 μ2 4 j0 4 0) (fun μ3 => some μ3)))
set_option maxRecDepth 100000 in
set_option maxHeartbeats 4000000 in
theorem w_Owl_rest {g : GL} {F G : RG} {nx : Nat} (d : Nat) {j0 : Nat} {μ : Mem} (hv0 : vc 4 j0)  {o : Mem} (hG : LM vc 0 535 μ F G) (h : f_Owl_rest j0 μ = some o) : Mt g (d + 0) m_Owl_rest [.inr (0, off 4 j0)] (G, nx) 0 0 (pRW vc 0 535 rV o F nx) := by
  unfold f_Owl_rest at h
  have kE : ∀ v, o = v → pRW vc 0 535 rV o F nx = pRW vc 0 535 rV v F nx := fun v e => by rw [e]
  refine Mt.of9 [some (.inr (0, off 4 j0))] (by decide +kernel) rfl rfl rfl rfl ?_
  refine ev_aload_n (k0 := 0) rfl d_Owl_rest_0 ?_
  refine cw_iconst 0 d_Owl_rest_1 rfl ?_
  obtain ⟨μ1, e_μ1, h⟩ := nm_some h
  refine cv_put (.inl (.int 0)) 0 hG okC hv0 fl_Owl_9_4 rfl rfl okv_int d_Owl_rest_2 ?_
  intro G hG; rw [← e_μ1] at hG
  refine ev_aload_n (k0 := 0) rfl d_Owl_rest_5 ?_
  refine cw_iconst 0 d_Owl_rest_6 rfl ?_
  obtain ⟨μ2, e_μ2, h⟩ := nm_some h
  refine cv_put (.inl (.int 0)) 0 hG okC hv0 fl_Owl_15_4 rfl rfl okv_int d_Owl_rest_7 ?_
  intro G hG; rw [← e_μ2] at hG
  refine ev_aload_n (k0 := 0) rfl d_Owl_rest_10 ?_
  refine cw_iconst 0 d_Owl_rest_11 rfl ?_
  obtain ⟨μ3, e_μ3, h⟩ := nm_some h
  refine cv_put (.inl (.int 0)) 0 hG okC hv0 fl_Owl_24_4 rfl rfl (okv_bool rfl) d_Owl_rest_12 ?_
  intro G hG; rw [← e_μ3] at hG
  have hP := kE _ (Option.some.inj h).symm
  exact ev_return (st := []) rfl d_Owl_rest_15 (by rw [hP]; exact ⟨rfl, hG, rfl⟩)

/-- ProphecyShop$Shop.openWith -/
def s_Shop_openWith_20 (j0 : Nat) (j1 : Nat) (x2 : Int32) (μ : Mem) : Option ((Int32 × Mem) ⊕ (Mem)) :=
  if (8 : Int32) ≤ x2 then (some (.inr μ)) else (((f_Setup_firstCoinsOf j1 x2 μ)).bind (fun r1 => chk (inb x2 8) (nm (st3 μ 27 j0 x2.toNatClampNeg r1) (fun μ3 => some (.inl ((x2 + 1, μ3)))))))
def s_Shop_openWith_45 (j0 : Nat) (x2 : Int32) (μ : Mem) : Option ((Int32 × Mem) ⊕ (Mem)) :=
  if (5 : Int32) ≤ x2 then (some (.inr μ)) else (chk (inb x2 5) (((f_Owl_rest (5 * j0 + x2.toNatClampNeg) μ)).bind (fun r2 => some (.inl ((x2 + 1, r2))))))
def f_Shop_openWith (j0 : Nat) (j1 : Nat) (μ : Mem) : Option (Mem) :=
  nm (st3 μ 9 j0 0 (Int32.ofNat j1)) (fun μ1 => nm (st3 μ1 9 j0 1 0) (fun μ2 => nm (st3 μ2 9 j0 2 (μ2 7 j1 0)) (fun μ3 => (it (fun (s : Int32 × Mem) => s_Shop_openWith_20 j0 j1 s.1 s.2) LIM ((0, μ3))).bind (fun q4 => (it (fun (s : Int32 × Mem) => s_Shop_openWith_45 j0 s.1 s.2) LIM ((0, q4))).bind (fun q5 => nm (st3 q5 9 j0 5 0) (fun μ6 => nm (st3 μ6 9 j0 8 0) (fun μ7 => nm (st3 μ7 9 j0 12 0) (fun μ8 => nm (st3 μ8 9 j0 13 0) (fun μ9 => nm (st3 μ9 9 j0 14 0) (fun μ10 => some μ10))))))))))
set_option maxRecDepth 100000 in
set_option maxHeartbeats 4000000 in
theorem ws_Shop_openWith_20 {g : GL} {F G : RG} {nx mc ms : Nat} {Post : RO → RM → Prop} (d : Nat) {j0 : Nat} {j1 : Nat} {x2 : Int32} {μ : Mem} (hv0 : vc 9 j0) (hv1 : vc 7 j1)  {o : (Int32 × Mem) ⊕ (Mem)} (hG : LM vc 0 535 μ F G) (h : s_Shop_openWith_20 j0 j1 x2 μ = some o)
    (kC : ∀ s', o = .inl s' → ∀ G, LM vc 0 535 s'.2 F G → Ev g (d + 2) m_Shop_openWith 20 [some (.inr (0, off 9 j0)), some (.inr (0, off 7 j1)), some (.inl (.int s'.1))] [] (G, nx) mc ms Post)
    (kX : ∀ r, o = .inr r → ∀ G, LM vc 0 535 r F G → Ev g (d + 2) m_Shop_openWith 43 [some (.inr (0, off 9 j0)), none, none] [] (G, nx) mc ms Post)
    : Ev g (d + 2) m_Shop_openWith 20 [some (.inr (0, off 9 j0)), some (.inr (0, off 7 j1)), some (.inl (.int x2))] [] (G, nx) mc ms Post := by
  unfold s_Shop_openWith_20 at h
  refine ev_iload_n (k0 := 2) rfl d_Shop_openWith_20 ?_
  refine cw_bipush 8 d_Shop_openWith_21 rfl ?_
  refine ev_icmp_ge (tgt := 43) (by decide) d_Shop_openWith_23 (fun c => ?_) (fun c => ?_)
  · rw [if_pos c] at h
    exact Ev.sub (.s (.n (.n LSb.z))) (kX _ (Option.some.inj h).symm G hG)
  · rw [if_neg c] at h
    refine ev_aload_n (k0 := 0) rfl d_Shop_openWith_26 ?_
    refine cv_get9 (.inr (0, off 27 j0)) hG hv0 fg_Shop_18_9 rfl rfl d_Shop_openWith_27 ?_
    refine ev_iload_n (k0 := 2) rfl d_Shop_openWith_30 ?_
    refine ev_aload_n (k0 := 1) rfl d_Shop_openWith_31 ?_
    refine ev_iload_n (k0 := 2) rfl d_Shop_openWith_32 ?_
    obtain ⟨r1, hr1, h⟩ := bind_some9 h
    refine Ev.z9 ?_
    refine cv_V (d := d + 1) (mc1 := 0) (ms1 := 0) (mc := mc) (ms := ms) [.inl (.int x2)] hG hv1 rfl lk_Shop_70 (w_Setup_firstCoinsOf (d + 0) hv1 hG hr1) rfl rfl d_Shop_openWith_33 (aft_ro ?_)
    refine Ev.at (pc' := 36) rfl (Ev.cong (st' := [.inl (.int r1), .inl (.int x2), .inr (0, off 27 j0)]) ?_ rfl rfl)
    obtain ⟨b2, h⟩ := chk_some h
    obtain ⟨μ3, e_μ3, h⟩ := nm_some h
    refine cv_iast hG okC (tv_9_3 hv0) rfl rfl b2 rfl d_Shop_openWith_36 ?_
    intro G hG; rw [← e_μ3] at hG
    refine cw_iincN 2 1 [some (.inr (0, off 9 j0)), some (.inr (0, off 7 j1)), some (.inl (.int (x2 + 1)))] d_Shop_openWith_37 rfl rfl rfl rfl rfl ?_
    refine ev_goto (tgt := 20) (by decide) d_Shop_openWith_40 ?_
    exact kC _ (Option.some.inj h).symm G hG
set_option maxRecDepth 100000 in
set_option maxHeartbeats 4000000 in
theorem ws_Shop_openWith_45 {g : GL} {F G : RG} {nx mc ms : Nat} {Post : RO → RM → Prop} (d : Nat) {j0 : Nat} {x2 : Int32} {μ : Mem} (hv0 : vc 9 j0)  {o : (Int32 × Mem) ⊕ (Mem)} (hG : LM vc 0 535 μ F G) (h : s_Shop_openWith_45 j0 x2 μ = some o)
    (kC : ∀ s', o = .inl s' → ∀ G, LM vc 0 535 s'.2 F G → Ev g (d + 2) m_Shop_openWith 45 [some (.inr (0, off 9 j0)), none, some (.inl (.int s'.1))] [] (G, nx) mc ms Post)
    (kX : ∀ r, o = .inr r → ∀ G, LM vc 0 535 r F G → Ev g (d + 2) m_Shop_openWith 65 [some (.inr (0, off 9 j0)), none, none] [] (G, nx) mc ms Post)
    : Ev g (d + 2) m_Shop_openWith 45 [some (.inr (0, off 9 j0)), none, some (.inl (.int x2))] [] (G, nx) mc ms Post := by
  unfold s_Shop_openWith_45 at h
  refine ev_iload_n (k0 := 2) rfl d_Shop_openWith_45 ?_
  refine cw_iconst 5 d_Shop_openWith_46 rfl ?_
  refine ev_icmp_ge (tgt := 65) (by decide) d_Shop_openWith_47 (fun c => ?_) (fun c => ?_)
  · rw [if_pos c] at h
    exact Ev.sub (.s (.n (.n LSb.z))) (kX _ (Option.some.inj h).symm G hG)
  · rw [if_neg c] at h
    refine ev_aload_n (k0 := 0) rfl d_Shop_openWith_50 ?_
    refine cv_get9 (.inr (0, off 29 j0)) hG hv0 fg_Shop_33_9 rfl rfl d_Shop_openWith_51 ?_
    refine ev_iload_n (k0 := 2) rfl d_Shop_openWith_54 ?_
    obtain ⟨b1, h⟩ := chk_some h
    refine cv_aald (.inr (0, off 4 (5 * j0 + x2.toNatClampNeg))) hG (tv_9_6 hv0) rfl rfl rfl b1 rfl d_Shop_openWith_55 ?_
    obtain ⟨r2, hr2, h⟩ := bind_some9 h
    refine Ev.z9 ?_
    refine cv_V (d := d + 1) (mc1 := 0) (ms1 := 0) (mc := mc) (ms := ms) [] hG (ta_29 (tv_9_6 hv0) b1) rfl lk_Shop_74 (w_Owl_rest (d + 1) (ta_29 (tv_9_6 hv0) b1) hG hr2) rfl rfl d_Shop_openWith_56 (aft_rw (fun G hG => ?_))
    refine Ev.at (pc' := 59) rfl (Ev.cong (st' := []) ?_ rfl rfl)
    refine cw_iincN 2 1 [some (.inr (0, off 9 j0)), none, some (.inl (.int (x2 + 1)))] d_Shop_openWith_59 rfl rfl rfl rfl rfl ?_
    refine ev_goto (tgt := 45) (by decide) d_Shop_openWith_62 ?_
    exact kC _ (Option.some.inj h).symm G hG
set_option maxRecDepth 100000 in
set_option maxHeartbeats 4000000 in
theorem w_Shop_openWith {g : GL} {F G : RG} {nx : Nat} (d : Nat) {j0 : Nat} {j1 : Nat} {μ : Mem} (hv0 : vc 9 j0) (hv1 : vc 7 j1)  {o : Mem} (hG : LM vc 0 535 μ F G) (h : f_Shop_openWith j0 j1 μ = some o) : Mt g (d + 2) m_Shop_openWith [.inr (0, off 9 j0), .inr (0, off 7 j1)] (G, nx) 0 0 (pRW vc 0 535 rV o F nx) := by
  unfold f_Shop_openWith at h
  have kE : ∀ v, o = v → pRW vc 0 535 rV o F nx = pRW vc 0 535 rV v F nx := fun v e => by rw [e]
  refine Mt.of9 [some (.inr (0, off 9 j0)), some (.inr (0, off 7 j1)), none] (by decide +kernel) rfl rfl rfl rfl ?_
  refine ev_aload_n (k0 := 0) rfl d_Shop_openWith_0 ?_
  refine ev_aload_n (k0 := 1) rfl d_Shop_openWith_1 ?_
  obtain ⟨μ1, e_μ1, h⟩ := nm_some h
  refine cv_put (.inr (0, off 7 j1)) (Int32.ofNat j1) hG okC hv0 fl_Shop_61_9 rfl (fldx (Nat.lt_trans (show j1 < 2 from hv1) (by decide))) okv_obj d_Shop_openWith_2 ?_
  intro G hG; rw [← e_μ1] at hG
  refine ev_aload_n (k0 := 0) rfl d_Shop_openWith_5 ?_
  refine cw_iconst 0 d_Shop_openWith_6 rfl ?_
  obtain ⟨μ2, e_μ2, h⟩ := nm_some h
  refine cv_put (.inl (.int 0)) 0 hG okC hv0 fl_Shop_9_9 rfl rfl okv_int d_Shop_openWith_7 ?_
  intro G hG; rw [← e_μ2] at hG
  refine ev_aload_n (k0 := 0) rfl d_Shop_openWith_10 ?_
  refine ev_aload_n (k0 := 1) rfl d_Shop_openWith_11 ?_
  refine cv_get9 (.inl (.int (μ2 7 j1 0))) hG hv1 fg_Shop_67_7 rfl rfl d_Shop_openWith_12 ?_
  obtain ⟨μ3, e_μ3, h⟩ := nm_some h
  refine cv_put (.inl (.int (μ2 7 j1 0))) (μ2 7 j1 0) hG okC hv0 fl_Shop_15_9 rfl rfl okv_int d_Shop_openWith_15 ?_
  intro G hG; rw [← e_μ3] at hG
  refine cw_iconst 0 d_Shop_openWith_18 rfl ?_
  refine Ev.at (pc' := 19) rfl ?_
  refine cw_istoreN_n 2 0 rfl [some (.inr (0, off 9 j0)), some (.inr (0, off 7 j1)), some (.inl (.int 0))] d_Shop_openWith_19 rfl rfl rfl ?_
  obtain ⟨q4, hl, h⟩ := bind_some9 h
  refine it_ev (W := fun (s : Int32 × Mem) => ∀ G, LM vc 0 535 s.2 F G → Ev g (d + 2) m_Shop_openWith 20 [some (.inr (0, off 9 j0)), some (.inr (0, off 7 j1)), some (.inl (.int s.1))] [] (G, nx) 0 0 (pRW vc 0 535 rV o F nx)) (X := fun z => z = q4) rfl (fun s9 o9 hs kC9 kX9 => ?_) LIM _ hl G hG
  intro G hG
  refine ws_Shop_openWith_20 d hv0 hv1 hG hs kC9 (fun r_ e G hG => ?_)
  · obtain rfl := (kX9 _ e).symm
    refine cw_iconst 0 d_Shop_openWith_43 rfl ?_
    refine cw_istoreN_n 2 0 rfl [some (.inr (0, off 9 j0)), none, some (.inl (.int 0))] d_Shop_openWith_44 rfl rfl rfl ?_
    obtain ⟨q5, hl, h⟩ := bind_some9 h
    refine it_ev (W := fun (s : Int32 × Mem) => ∀ G, LM vc 0 535 s.2 F G → Ev g (d + 2) m_Shop_openWith 45 [some (.inr (0, off 9 j0)), none, some (.inl (.int s.1))] [] (G, nx) 0 0 (pRW vc 0 535 rV o F nx)) (X := fun z => z = q5) rfl (fun s9 o9 hs kC9 kX9 => ?_) LIM _ hl G hG
    intro G hG
    refine ws_Shop_openWith_45 d hv0 hG hs kC9 (fun r_ e G hG => ?_)
    · obtain rfl := (kX9 _ e).symm
      refine ev_aload_n (k0 := 0) rfl d_Shop_openWith_65 ?_
      refine cw_iconst 0 d_Shop_openWith_66 rfl ?_
      obtain ⟨μ6, e_μ6, h⟩ := nm_some h
      refine cv_put (.inl (.int 0)) 0 hG okC hv0 fl_Shop_28_9 rfl rfl okv_int d_Shop_openWith_67 ?_
      intro G hG; rw [← e_μ6] at hG
      refine ev_aload_n (k0 := 0) rfl d_Shop_openWith_70 ?_
      refine cw_iconst 0 d_Shop_openWith_71 rfl ?_
      obtain ⟨μ7, e_μ7, h⟩ := nm_some h
      refine cv_put (.inl (.int 0)) 0 hG okC hv0 fl_Shop_40_9 rfl rfl okv_int d_Shop_openWith_72 ?_
      intro G hG; rw [← e_μ7] at hG
      refine ev_aload_n (k0 := 0) rfl d_Shop_openWith_75 ?_
      refine cw_iconst 0 d_Shop_openWith_76 rfl ?_
      obtain ⟨μ8, e_μ8, h⟩ := nm_some h
      refine cv_put (.inl (.int 0)) 0 hG okC hv0 fl_Shop_52_9 rfl rfl okv_int d_Shop_openWith_77 ?_
      intro G hG; rw [← e_μ8] at hG
      refine ev_aload_n (k0 := 0) rfl d_Shop_openWith_80 ?_
      refine cw_iconst 0 d_Shop_openWith_81 rfl ?_
      refine Ev.at (pc' := 82) rfl ?_
      obtain ⟨μ9, e_μ9, h⟩ := nm_some h
      refine cv_put (.inl (.int 0)) 0 hG okC hv0 fl_Shop_55_9 rfl rfl okv_int d_Shop_openWith_82 ?_
      intro G hG; rw [← e_μ9] at hG
      refine ev_aload_n (k0 := 0) rfl d_Shop_openWith_85 ?_
      refine cw_iconst 0 d_Shop_openWith_86 rfl ?_
      obtain ⟨μ10, e_μ10, h⟩ := nm_some h
      refine cv_put (.inl (.int 0)) 0 hG okC hv0 fl_Shop_58_9 rfl rfl okv_int d_Shop_openWith_87 ?_
      intro G hG; rw [← e_μ10] at hG
      have hP := kE _ (Option.some.inj h).symm
      exact ev_return (st := []) rfl d_Shop_openWith_90 (by rw [hP]; exact ⟨rfl, hG, rfl⟩)

/-- ProphecyShop.openShop -/
def s_P_openShop_63 (x1 : Int32) (x3 : Int32) (μ : Mem) : Option ((Int32 × Mem) ⊕ (Mem)) :=
  if (2 : Int32) ≤ x3 then (some (.inr μ)) else (chk (inb x3 2) (nm (st3 μ 36 0 x3.toNatClampNeg 0) (fun μ2 => some (.inl ((x3 + 1, μ2))))))
def f_P_openShop  (μ : Mem) : Option (Int32 × Mem) :=
  chk (decide ((μ 12 0 4).toNatClampNeg < 2)) (((f_SetupReader_readInto ((μ 12 0 4).toNatClampNeg) μ)).bind (fun r2 => ((f_Text_shortenTo 0 r2.2)).bind (fun r3 => if r2.1 = 0 then (chk (decide ((r3 12 0 3).toNatClampNeg < 2)) (chk (decide ((r3 12 0 4).toNatClampNeg < 2)) (nm (st3 r3 12 0 3 (Int32.ofNat ((r3 12 0 4).toNatClampNeg))) (fun μ6 => nm (st3 μ6 12 0 4 (Int32.ofNat ((r3 12 0 3).toNatClampNeg))) (fun μ7 => chk (decide ((μ7 12 0 3).toNatClampNeg < 2)) (((f_Shop_openWith 0 ((μ7 12 0 3).toNatClampNeg) μ7)).bind (fun r9 => nm (st3 r9 2 0 1 0) (fun μ10 => (it (fun (s : Int32 × Mem) => s_P_openShop_63 r2.1 s.1 s.2) LIM ((0, μ10))).bind (fun q11 => some ((r2.1, q11))))))))))) else (some ((r2.1, r3))))))
set_option maxRecDepth 100000 in
set_option maxHeartbeats 4000000 in
theorem ws_P_openShop_63 {g : GL} {F G : RG} {nx mc ms : Nat} {Post : RO → RM → Prop} (d : Nat) {x1 : Int32} {x3 : Int32} {μ : Mem}  (hSG : SG g) {o : (Int32 × Mem) ⊕ (Mem)} (hG : LM vc 0 535 μ F G) (h : s_P_openShop_63 x1 x3 μ = some o)
    (kC : ∀ s', o = .inl s' → ∀ G, LM vc 0 535 s'.2 F G → Ev g (d + 10) m_P_openShop 63 [some (.inr (0, off 12 0)), some (.inl (.int x1)), none, some (.inl (.int s'.1))] [] (G, nx) mc ms Post)
    (kX : ∀ r, o = .inr r → ∀ G, LM vc 0 535 r F G → Ev g (d + 10) m_P_openShop 81 [none, some (.inl (.int x1)), none, none] [] (G, nx) mc ms Post)
    : Ev g (d + 10) m_P_openShop 63 [some (.inr (0, off 12 0)), some (.inl (.int x1)), none, some (.inl (.int x3))] [] (G, nx) mc ms Post := by
  unfold s_P_openShop_63 at h
  refine ev_iload_n (k0 := 3) rfl d_P_openShop_63 ?_
  refine cw_iconst 2 d_P_openShop_64 rfl ?_
  refine ev_icmp_ge (tgt := 81) (by decide) d_P_openShop_65 (fun c => ?_) (fun c => ?_)
  · rw [if_pos c] at h
    exact Ev.sub (.n (.s (.n (.n LSb.z)))) (kX _ (Option.some.inj h).symm G hG)
  · rw [if_neg c] at h
    refine ev_aload_n (k0 := 0) rfl d_P_openShop_68 ?_
    refine cv_get9 (.inr (0, off 36 0)) hG v_12 fg_ProphecyShop_65_12 rfl rfl d_P_openShop_69 ?_
    refine ev_iload_n (k0 := 3) rfl d_P_openShop_72 ?_
    refine cw_iconst 0 d_P_openShop_73 rfl ?_
    obtain ⟨b1, h⟩ := chk_some h
    obtain ⟨μ2, e_μ2, h⟩ := nm_some h
    refine cv_zast hG okC v_36 rfl rfl b1 rfl rfl d_P_openShop_74 ?_
    intro G hG; rw [← e_μ2] at hG
    refine cw_iincN 3 1 [some (.inr (0, off 12 0)), some (.inl (.int x1)), none, some (.inl (.int (x3 + 1)))] d_P_openShop_75 rfl rfl rfl rfl rfl ?_
    refine ev_goto (tgt := 63) (by decide) d_P_openShop_78 ?_
    exact kC _ (Option.some.inj h).symm G hG
set_option maxRecDepth 100000 in
set_option maxHeartbeats 4000000 in
theorem w_P_openShop {g : GL} {F G : RG} {nx : Nat} (d : Nat)  {μ : Mem}  (hSG : SG g) {o : Int32 × Mem} (hG : LM vc 0 535 μ F G) (h : f_P_openShop  μ = some o) : Mt g (d + 10) m_P_openShop [.inr (0, off 12 0)] (G, nx) 0 0 (pRW vc 0 535 (rI o.1) o.2 F nx) := by
  unfold f_P_openShop at h
  have kE : ∀ v, o = v → pRW vc 0 535 (rI o.1) o.2 F nx = pRW vc 0 535 (rI v.1) v.2 F nx := fun v e => by rw [e]
  refine Mt.of9 [some (.inr (0, off 12 0)), none, none, none] (by decide +kernel) rfl rfl rfl rfl ?_
  refine ev_aload_n (k0 := 0) rfl d_P_openShop_0 ?_
  refine cv_get9 (.inr (0, off 8 0)) hG v_12 fg_ProphecyShop_21_12 rfl rfl d_P_openShop_1 ?_
  refine ev_aload_n (k0 := 0) rfl d_P_openShop_4 ?_
  obtain ⟨b1, h⟩ := chk_some h
  refine cv_get9 (.inr (0, off 7 ((μ 12 0 4).toNatClampNeg))) hG v_12 fg_ProphecyShop_39_12 rfl rfl d_P_openShop_5 ?_
  obtain ⟨r2, hr2, h⟩ := bind_some9 h
  refine cv_V (d := d + 9) (mc1 := 0) (ms1 := 0) (mc := 0) (ms := 0) [.inr (0, off 7 ((μ 12 0 4).toNatClampNeg))] hG v_8 rfl lk_ProphecyShop_356 (w_SetupReader_readInto (d + 0) (show vc 7 _ from dlt9 b1) hSG hG hr2) rfl rfl d_P_openShop_8 (aft_rw (fun G hG => ?_))
  refine Ev.at (pc' := 11) rfl (Ev.cong (st' := [.inl (.int r2.1)]) ?_ rfl rfl)
  refine cw_istoreN_n 1 r2.1 rfl [some (.inr (0, off 12 0)), some (.inl (.int r2.1)), none, none] d_P_openShop_11 rfl rfl rfl ?_
  refine ev_aload_n (k0 := 0) rfl d_P_openShop_12 ?_
  refine cv_get9 (.inr (0, off 11 0)) hG v_12 fg_ProphecyShop_10_12 rfl rfl d_P_openShop_13 ?_
  refine cw_iconst 0 d_P_openShop_16 rfl ?_
  obtain ⟨r3, hr3, h⟩ := bind_some9 h
  refine cv_V (d := d + 9) (mc1 := 0) (ms1 := 0) (mc := 0) (ms := 0) [.inl (.int 0)] hG v_11 rfl lk_ProphecyShop_127 (w_Text_shortenTo (d + 9) hG hr3) rfl rfl d_P_openShop_17 (aft_rw (fun G hG => ?_))
  refine Ev.at (pc' := 20) rfl (Ev.cong (st' := []) ?_ rfl rfl)
  refine ev_iload_n (k0 := 1) rfl d_P_openShop_20 ?_
  refine ev_if_ne (tgt := 81) (by decide) d_P_openShop_21 (fun c => ?_) (fun c => ?_)
  · rw [if_neg c] at h
    refine ev_iload_n (k0 := 1) rfl d_P_openShop_81 ?_
    have hP := kE _ (Option.some.inj h).symm
    exact ev_ireturn (st := []) rfl rfl d_P_openShop_82 (by rw [hP]; exact ⟨rfl, hG, rfl⟩)
  · rw [if_pos c] at h
    refine ev_aload_n (k0 := 0) rfl d_P_openShop_24 ?_
    obtain ⟨b4, h⟩ := chk_some h
    refine cv_get9 (.inr (0, off 7 ((r3 12 0 3).toNatClampNeg))) hG v_12 fg_ProphecyShop_35_12 rfl rfl d_P_openShop_25 ?_
    refine cw_astoreN_n 2 [some (.inr (0, off 12 0)), some (.inl (.int r2.1)), some (.inr (0, off 7 ((r3 12 0 3).toNatClampNeg))), none] d_P_openShop_28 rfl rfl rfl ?_
    refine ev_aload_n (k0 := 0) rfl d_P_openShop_29 ?_
    refine ev_aload_n (k0 := 0) rfl d_P_openShop_30 ?_
    obtain ⟨b5, h⟩ := chk_some h
    refine cv_get9 (.inr (0, off 7 ((r3 12 0 4).toNatClampNeg))) hG v_12 fg_ProphecyShop_39_12 rfl rfl d_P_openShop_31 ?_
    obtain ⟨μ6, e_μ6, h⟩ := nm_some h
    refine cv_put (.inr (0, off 7 ((r3 12 0 4).toNatClampNeg))) (Int32.ofNat ((r3 12 0 4).toNatClampNeg)) hG okC v_12 fl_ProphecyShop_35_12 rfl (fldx (Nat.lt_trans (show (r3 12 0 4).toNatClampNeg < 2 from (show vc 7 _ from dlt9 b5)) (by decide))) okv_obj d_P_openShop_34 ?_
    intro G hG; rw [← e_μ6] at hG
    refine ev_aload_n (k0 := 0) rfl d_P_openShop_37 ?_
    refine ev_aload_n (k0 := 2) rfl d_P_openShop_38 ?_
    obtain ⟨μ7, e_μ7, h⟩ := nm_some h
    refine cv_put (.inr (0, off 7 ((r3 12 0 3).toNatClampNeg))) (Int32.ofNat ((r3 12 0 3).toNatClampNeg)) hG okC v_12 fl_ProphecyShop_39_12 rfl (fldx (Nat.lt_trans (show (r3 12 0 3).toNatClampNeg < 2 from (show vc 7 _ from dlt9 b4)) (by decide))) okv_obj d_P_openShop_39 ?_
    intro G hG; rw [← e_μ7] at hG
    refine ev_aload_n (k0 := 0) rfl d_P_openShop_42 ?_
    refine Ev.at (pc' := 43) rfl ?_
    refine cv_get9 (.inr (0, off 9 0)) hG v_12 fg_ProphecyShop_47_12 rfl rfl d_P_openShop_43 ?_
    refine ev_aload_n (k0 := 0) rfl d_P_openShop_46 ?_
    obtain ⟨b8, h⟩ := chk_some h
    refine cv_get9 (.inr (0, off 7 ((μ7 12 0 3).toNatClampNeg))) hG v_12 fg_ProphecyShop_35_12 rfl rfl d_P_openShop_47 ?_
    obtain ⟨r9, hr9, h⟩ := bind_some9 h
    refine cv_V (d := d + 9) (mc1 := 0) (ms1 := 0) (mc := 0) (ms := 0) [.inr (0, off 7 ((μ7 12 0 3).toNatClampNeg))] hG (show vc 9 0 from (by decide : 0 < 12)) rfl lk_ProphecyShop_359 (w_Shop_openWith (d + 7) (show vc 9 0 from (by decide : 0 < 12)) (show vc 7 _ from dlt9 b8) hG hr9) rfl rfl d_P_openShop_50 (aft_rw (fun G hG => ?_))
    refine Ev.at (pc' := 53) rfl (Ev.cong (st' := []) ?_ rfl rfl)
    refine ev_aload_n (k0 := 0) rfl d_P_openShop_53 ?_
    refine cv_get9 (.inr (0, off 2 0)) hG v_12 fg_ProphecyShop_57_12 rfl rfl d_P_openShop_54 ?_
    refine cw_iconst 0 d_P_openShop_57 rfl ?_
    obtain ⟨μ10, e_μ10, h⟩ := nm_some h
    refine cv_put (.inl (.int 0)) 0 hG okC v_2 fl_ProphecyShop_348_2 rfl rfl okv_int d_P_openShop_58 ?_
    intro G hG; rw [← e_μ10] at hG
    refine cw_iconst 0 d_P_openShop_61 rfl ?_
    refine cw_istoreN_n 3 0 rfl [some (.inr (0, off 12 0)), some (.inl (.int r2.1)), some (.inr (0, off 7 ((r3 12 0 3).toNatClampNeg))), some (.inl (.int 0))] d_P_openShop_62 rfl rfl rfl ?_
    obtain ⟨q11, hl, h⟩ := bind_some9 h
    refine Ev.sub (ls' := [some (.inr (0, off 12 0)), some (.inl (.int r2.1)), none, some (.inl (.int 0))]) (.s (.s (.n (.s LSb.z)))) ?_
    refine it_ev (W := fun (s : Int32 × Mem) => ∀ G, LM vc 0 535 s.2 F G → Ev g (d + 10) m_P_openShop 63 [some (.inr (0, off 12 0)), some (.inl (.int r2.1)), none, some (.inl (.int s.1))] [] (G, nx) 0 0 (pRW vc 0 535 (rI o.1) o.2 F nx)) (X := fun z => z = q11) rfl (fun s9 o9 hs kC9 kX9 => ?_) LIM _ hl G hG
    intro G hG
    refine ws_P_openShop_63 d hSG hG hs kC9 (fun r_ e G hG => ?_)
    · obtain rfl := (kX9 _ e).symm
      refine ev_iload_n (k0 := 1) rfl d_P_openShop_81 ?_
      have hP := kE _ (Option.some.inj h).symm
      exact ev_ireturn (st := []) rfl rfl d_P_openShop_82 (by rw [hP]; exact ⟨rfl, hG, rfl⟩)

/-- ProphecyShop.load -/
def f_P_load  (μ : Mem) : Option (Int32 × Mem) :=
  ((f_P_openShop μ)).bind (fun r1 => nm (st3 r1.2 12 0 10 r1.1) (fun μ2 => nm (st3 μ2 12 0 11 (μ2 8 0 5)) (fun μ3 => some ((r1.1, μ3)))))
set_option maxRecDepth 100000 in
set_option maxHeartbeats 4000000 in
theorem w_P_load {g : GL} {F G : RG} {nx : Nat} (d : Nat)  {μ : Mem}  (hSG : SG g) {o : Int32 × Mem} (hG : LM vc 0 535 μ F G) (h : f_P_load  μ = some o) : Mt g (d + 11) m_P_load [.inr (0, off 12 0)] (G, nx) 0 0 (pRW vc 0 535 (rI o.1) o.2 F nx) := by
  unfold f_P_load at h
  have kE : ∀ v, o = v → pRW vc 0 535 (rI o.1) o.2 F nx = pRW vc 0 535 (rI v.1) v.2 F nx := fun v e => by rw [e]
  refine Mt.of9 [some (.inr (0, off 12 0)), none] (by decide +kernel) rfl rfl rfl rfl ?_
  refine ev_aload_n (k0 := 0) rfl d_P_load_0 ?_
  obtain ⟨r1, hr1, h⟩ := bind_some9 h
  refine cv_V (d := d + 10) (mc1 := 0) (ms1 := 0) (mc := 0) (ms := 0) [] hG v_12 rfl lk_ProphecyShop_98 (w_P_openShop (d + 0) hSG hG hr1) rfl rfl d_P_load_1 (aft_rw (fun G hG => ?_))
  refine Ev.at (pc' := 4) rfl (Ev.cong (st' := [.inl (.int r1.1)]) ?_ rfl rfl)
  refine cw_istoreN_n 1 r1.1 rfl [some (.inr (0, off 12 0)), some (.inl (.int r1.1))] d_P_load_4 rfl rfl rfl ?_
  refine ev_aload_n (k0 := 0) rfl d_P_load_5 ?_
  refine ev_iload_n (k0 := 1) rfl d_P_load_6 ?_
  obtain ⟨μ2, e_μ2, h⟩ := nm_some h
  refine cv_put (.inl (.int r1.1)) r1.1 hG okC v_12 fl_ProphecyShop_69_12 rfl rfl okv_int d_P_load_7 ?_
  intro G hG; rw [← e_μ2] at hG
  refine ev_aload_n (k0 := 0) rfl d_P_load_10 ?_
  refine ev_aload_n (k0 := 0) rfl d_P_load_11 ?_
  refine cv_get9 (.inr (0, off 8 0)) hG v_12 fg_ProphecyShop_21_12 rfl rfl d_P_load_12 ?_
  refine cv_get9 (.inl (.int (μ2 8 0 5))) hG v_8 fg_ProphecyShop_130_8 rfl rfl d_P_load_15 ?_
  obtain ⟨μ3, e_μ3, h⟩ := nm_some h
  refine cv_put (.inl (.int (μ2 8 0 5))) (μ2 8 0 5) hG okC v_12 fl_ProphecyShop_73_12 rfl rfl okv_int d_P_load_18 ?_
  intro G hG; rw [← e_μ3] at hG
  refine ev_iload_n (k0 := 1) rfl d_P_load_21 ?_
  have hP := kE _ (Option.some.inj h).symm
  exact ev_ireturn (st := []) rfl rfl d_P_load_22 (by rw [hP]; exact ⟨rfl, hG, rfl⟩)

/-- ProphecyShop$Shop.sumOfPrices -/
def s_Shop_sumOfPrices_4 (j0 : Nat) (x1 : Int32) (x2 : Int32) (μ : Mem) : Option ((Int32 × Int32) ⊕ (Int32)) :=
  if (μ 9 j0 5) ≤ x2 then (some (.inr x1)) else (chk (inb x2 24) (nm (x1 + (μ 5 (24 * j0 + x2.toNatClampNeg) 6) : Int32) (fun v2 => some (.inl ((v2, x2 + 1))))))
def f_Shop_sumOfPrices (j0 : Nat) (μ : Mem) : Option (Int32) :=
  (it (fun (s : Int32 × Int32) => s_Shop_sumOfPrices_4 j0 s.1 s.2 μ) LIM ((0, 0))).bind (fun q1 => some q1)
set_option maxRecDepth 100000 in
set_option maxHeartbeats 4000000 in
theorem ws_Shop_sumOfPrices_4 {g : GL} {F G : RG} {nx mc ms : Nat} {Post : RO → RM → Prop} (d : Nat) {j0 : Nat} {x1 : Int32} {x2 : Int32} {μ : Mem} (hv0 : vc 9 j0)  {o : (Int32 × Int32) ⊕ (Int32)} (hG : LM vc 0 535 μ F G) (h : s_Shop_sumOfPrices_4 j0 x1 x2 μ = some o)
    (kC : ∀ s', o = .inl s' → Ev g (d + 0) m_Shop_sumOfPrices 4 [some (.inr (0, off 9 j0)), some (.inl (.int s'.1)), some (.inl (.int s'.2))] [] (G, nx) mc ms Post)
    (kX : ∀ r, o = .inr r → Ev g (d + 0) m_Shop_sumOfPrices 30 [none, some (.inl (.int r)), none] [] (G, nx) mc ms Post)
    : Ev g (d + 0) m_Shop_sumOfPrices 4 [some (.inr (0, off 9 j0)), some (.inl (.int x1)), some (.inl (.int x2))] [] (G, nx) mc ms Post := by
  unfold s_Shop_sumOfPrices_4 at h
  refine ev_iload_n (k0 := 2) rfl d_Shop_sumOfPrices_4 ?_
  refine ev_aload_n (k0 := 0) rfl d_Shop_sumOfPrices_5 ?_
  refine cv_get9 (.inl (.int (μ 9 j0 5))) hG hv0 fg_Shop_28_9 rfl rfl d_Shop_sumOfPrices_6 ?_
  refine ev_icmp_ge (tgt := 30) (by decide) d_Shop_sumOfPrices_9 (fun c => ?_) (fun c => ?_)
  · rw [if_pos c] at h
    exact Ev.sub (.n (.s (.n LSb.z))) (kX _ (Option.some.inj h).symm)
  · rw [if_neg c] at h
    refine ev_iload_n (k0 := 1) rfl d_Shop_sumOfPrices_12 ?_
    refine ev_aload_n (k0 := 0) rfl d_Shop_sumOfPrices_13 ?_
    refine cv_get9 (.inr (0, off 28 j0)) hG hv0 fg_Shop_24_9 rfl rfl d_Shop_sumOfPrices_14 ?_
    refine ev_iload_n (k0 := 2) rfl d_Shop_sumOfPrices_17 ?_
    obtain ⟨b1, h⟩ := chk_some h
    refine cv_aald (.inr (0, off 5 (24 * j0 + x2.toNatClampNeg))) hG (tv_9_4 hv0) rfl rfl rfl b1 rfl d_Shop_sumOfPrices_18 ?_
    refine cv_get9 (.inl (.int (μ 5 (24 * j0 + x2.toNatClampNeg) 6))) hG (ta_28 (tv_9_4 hv0) b1) fg_Shop_134_5 rfl rfl d_Shop_sumOfPrices_19 ?_
    refine ev_iadd d_Shop_sumOfPrices_22 ?_
    obtain ⟨v2, e_v2, h⟩ := nm_some h
    refine cw_istoreN_n 1 v2 e_v2 [some (.inr (0, off 9 j0)), some (.inl (.int v2)), some (.inl (.int x2))] d_Shop_sumOfPrices_23 rfl rfl rfl ?_
    refine cw_iincN 2 1 [some (.inr (0, off 9 j0)), some (.inl (.int v2)), some (.inl (.int (x2 + 1)))] d_Shop_sumOfPrices_24 rfl rfl rfl rfl rfl ?_
    refine ev_goto (tgt := 4) (by decide) d_Shop_sumOfPrices_27 ?_
    exact kC _ (Option.some.inj h).symm
set_option maxRecDepth 100000 in
set_option maxHeartbeats 4000000 in
theorem w_Shop_sumOfPrices {g : GL} {F G : RG} {nx : Nat} (d : Nat) {j0 : Nat} {μ : Mem} (hv0 : vc 9 j0)  {o : Int32} (hG : LM vc 0 535 μ F G) (h : f_Shop_sumOfPrices j0 μ = some o) : Mt g (d + 0) m_Shop_sumOfPrices [.inr (0, off 9 j0)] (G, nx) 0 0 (pRO (rI o) (G, nx)) := by
  unfold f_Shop_sumOfPrices at h
  have kE : ∀ v, o = v → pRO (rI o) (G, nx) = pRO (rI v) (G, nx) := fun v e => by rw [e]
  refine Mt.of9 [some (.inr (0, off 9 j0)), none, none] (by decide +kernel) rfl rfl rfl rfl ?_
  refine cw_iconst 0 d_Shop_sumOfPrices_0 rfl ?_
  refine cw_istoreN_n 1 0 rfl [some (.inr (0, off 9 j0)), some (.inl (.int 0)), none] d_Shop_sumOfPrices_1 rfl rfl rfl ?_
  refine cw_iconst 0 d_Shop_sumOfPrices_2 rfl ?_
  refine cw_istoreN_n 2 0 rfl [some (.inr (0, off 9 j0)), some (.inl (.int 0)), some (.inl (.int 0))] d_Shop_sumOfPrices_3 rfl rfl rfl ?_
  obtain ⟨q1, hl, h⟩ := bind_some9 h
  refine it_ev (W := fun (s : Int32 × Int32) => Ev g (d + 0) m_Shop_sumOfPrices 4 [some (.inr (0, off 9 j0)), some (.inl (.int s.1)), some (.inl (.int s.2))] [] (G, nx) 0 0 (pRO (rI o) (G, nx))) (X := fun z => z = q1) rfl (fun s9 o9 hs kC9 kX9 => ?_) LIM _ hl
  refine ws_Shop_sumOfPrices_4 d hv0 hG hs kC9 (fun r_ e => ?_)
  · obtain rfl := (kX9 _ e).symm
    refine ev_iload_n (k0 := 1) rfl d_Shop_sumOfPrices_30 ?_
    have hP := kE _ (Option.some.inj h).symm
    exact ev_ireturn (st := []) rfl rfl d_Shop_sumOfPrices_31 (by rw [hP]; exact ⟨rfl, rfl⟩)

/-- ProphecyShop.meanPrice -/
def f_P_meanPrice  (μ : Mem) : Option (UInt64) :=
  nm (μ 9 0 5 : Int32) (fun v1 => if v1 = 0 then some FP.dconst0 else (((f_Shop_sumOfPrices 0 μ)).bind (fun r2 => chk (okD9 (FP.ddiv (FP.i2d r2) (FP.i2d v1))) (some (FP.ddiv (FP.i2d r2) (FP.i2d v1))))))
set_option maxRecDepth 100000 in
set_option maxHeartbeats 4000000 in
theorem w_P_meanPrice {g : GL} {F G : RG} {nx : Nat} (d : Nat)  {μ : Mem}   {o : UInt64} (hG : LM vc 0 535 μ F G) (h : f_P_meanPrice  μ = some o) : Mt g (d + 1) m_P_meanPrice [.inr (0, off 12 0)] (G, nx) 0 0 (pRO (rD o) (G, nx)) := by
  unfold f_P_meanPrice at h
  have kE : ∀ v, o = v → pRO (rD o) (G, nx) = pRO (rD v) (G, nx) := fun v e => by rw [e]
  refine Mt.of9 [some (.inr (0, off 12 0)), none] (by decide +kernel) rfl rfl rfl rfl ?_
  refine ev_aload_n (k0 := 0) rfl d_P_meanPrice_0 ?_
  refine cv_get9 (.inr (0, off 9 0)) hG v_12 fg_ProphecyShop_47_12 rfl rfl d_P_meanPrice_1 ?_
  refine cv_get9 (.inl (.int (μ 9 0 5))) hG (show vc 9 0 from (by decide : 0 < 12)) fg_ProphecyShop_195_9 rfl rfl d_P_meanPrice_4 ?_
  obtain ⟨v1, e_v1, h⟩ := nm_some h
  refine cw_istoreN_n 1 v1 e_v1 [some (.inr (0, off 12 0)), some (.inl (.int v1))] d_P_meanPrice_7 rfl rfl rfl ?_
  refine ev_iload_n (k0 := 1) rfl d_P_meanPrice_8 ?_
  refine ev_if_ne (tgt := 16) (by decide) d_P_meanPrice_9 (fun c => ?_) (fun c => ?_)
  · rw [if_neg c] at h
    refine ev_aload_n (k0 := 0) rfl d_P_meanPrice_16 ?_
    refine cv_get9 (.inr (0, off 9 0)) hG v_12 fg_ProphecyShop_47_12 rfl rfl d_P_meanPrice_17 ?_
    obtain ⟨r2, hr2, h⟩ := bind_some9 h
    refine cv_V (d := d + 0) (mc1 := 0) (ms1 := 0) (mc := 0) (ms := 0) [] hG (show vc 9 0 from (by decide : 0 < 12)) rfl lk_ProphecyShop_278 (w_Shop_sumOfPrices (d + 0) (show vc 9 0 from (by decide : 0 < 12)) hG hr2) rfl rfl d_P_meanPrice_20 (aft_ro ?_)
    refine Ev.at (pc' := 23) rfl (Ev.cong (st' := [.inl (.int r2)]) ?_ rfl rfl)
    refine ev_i2d d_P_meanPrice_23 ?_
    refine ev_iload_n (k0 := 1) rfl d_P_meanPrice_24 ?_
    refine ev_i2d d_P_meanPrice_25 ?_
    obtain ⟨b3, h⟩ := chk_some h
    refine ev_ddiv (okD9_n b3) d_P_meanPrice_26 ?_
    have hP := kE _ (Option.some.inj h).symm
    exact ev_dreturn (st := []) rfl d_P_meanPrice_27 (by rw [hP]; exact ⟨rfl, rfl⟩)
  · rw [if_pos c] at h
    refine ev_dconst0 d_P_meanPrice_12 ?_
    refine ev_goto (tgt := 27) (by decide) d_P_meanPrice_13 ?_
    have hP := kE _ (Option.some.inj h).symm
    exact ev_dreturn (st := []) rfl d_P_meanPrice_27 (by rw [hP]; exact ⟨rfl, rfl⟩)

/-- ProphecyShop.owlCoins -/
def f_P_owlCoins (x1 : Int32) (μ : Mem) : Option (String ⊕ Int32) :=
  ((if x1 < 0 then (some (0)) else (chk (decide ((μ 12 0 3).toNatClampNeg < 2)) (if (μ 7 ((μ 12 0 3).toNatClampNeg) 11) ≤ x1 then (some (0)) else (some (1)))) : Option (Int32))).bind (fun q1 => ((f_P_throwIfMissing q1 μ)).bind (fun r2 => els r2 (fun E3 => some ((.inl E3))) (fun v4 => ((f_Shop_owlWith 0 x1 μ)).bind (fun r5 => chk (decide (r5 < 60)) (some (.inr (μ 4 r5 1)))))))
set_option maxRecDepth 100000 in
set_option maxHeartbeats 4000000 in
theorem w_P_owlCoins {g : GL} {F G : RG} {nx : Nat} (d : Nat) {x1 : Int32} {μ : Mem}   {o : String ⊕ Int32} (hG : LM vc 0 535 μ F G) (h : f_P_owlCoins x1 μ = some o) : Mt g (d + 1) m_P_owlCoins [.inr (0, off 12 0), .inl (.int x1)] (G, nx) 1 6 (pRO (thR rI o) (G, nx)) := by
  unfold f_P_owlCoins at h
  have kE : ∀ v, o = v → pRO (thR rI o) (G, nx) = pRO (thR rI v) (G, nx) := fun v e => by rw [e]
  refine Mt.of9 [some (.inr (0, off 12 0)), some (.inl (.int x1))] (by decide +kernel) rfl rfl rfl rfl ?_
  refine ev_iload_n (k0 := 1) rfl d_P_owlCoins_0 ?_
  obtain ⟨q1, hj, h⟩ := bind_some9 h
  have K_q1 : Ev g (d + 1) m_P_owlCoins 20 [some (.inr (0, off 12 0)), some (.inl (.int x1))] [.inl (.int q1)] (G, nx) 1 6 (pRO (thR rI o) (G, nx)) := by
    obtain ⟨r2, hr2, h⟩ := bind_some9 h
    rcases r2 with E3 | v4
    · have hP := kE _ (Option.some.inj h).symm
      refine cw_S (d := d + 0) (mc1 := 1) (ms1 := 6) (mc := 0) (ms := 0) [.inl (.int q1)] lk_ProphecyShop_178 (w_P_throwIfMissing (d + 0) hG hr2) rfl rfl d_P_owlCoins_20 (aft_th rfl (by rw [hP]; exact ⟨rfl, rfl⟩))
    rw [els_r] at h
    refine cw_S (d := d + 0) (mc1 := 1) (ms1 := 6) (mc := 0) (ms := 0) [.inl (.int q1)] lk_ProphecyShop_178 (w_P_throwIfMissing (d + 0) hG hr2) rfl rfl d_P_owlCoins_20 (aft_ro ?_)
    refine Ev.at (pc' := 23) rfl (Ev.cong (st' := []) ?_ rfl rfl)
    refine ev_aload_n (k0 := 0) rfl d_P_owlCoins_23 ?_
    refine cv_get9 (.inr (0, off 9 0)) hG v_12 fg_ProphecyShop_47_12 rfl rfl d_P_owlCoins_24 ?_
    refine ev_iload_n (k0 := 1) rfl d_P_owlCoins_27 ?_
    obtain ⟨r5, hr5, h⟩ := bind_some9 h
    refine cv_V (d := d + 0) (mc1 := 0) (ms1 := 0) (mc := 0) (ms := 0) [.inl (.int x1)] hG (show vc 9 0 from (by decide : 0 < 12)) rfl lk_ProphecyShop_255 (w_Shop_owlWith (d + 0) (show vc 9 0 from (by decide : 0 < 12)) hG hr5) rfl rfl d_P_owlCoins_28 (aft_ro ?_)
    obtain ⟨b6, h⟩ := chk_some h
    refine Ev.at (pc' := 31) rfl (Ev.cong (st' := [.inr (0, off 4 r5)]) ?_ rfl rfl)
    refine cv_get9 (.inl (.int (μ 4 r5 1))) hG (show vc 4 _ from dlt9 b6) fg_ProphecyShop_264_4 rfl rfl d_P_owlCoins_31 ?_
    have hP := kE _ (Option.some.inj h).symm
    exact ev_ireturn (st := []) rfl rfl d_P_owlCoins_34 (by rw [hP]; exact ⟨rfl, rfl⟩)
  clear h
  have h := hj
  refine ev_if_lt (tgt := 19) (by decide) d_P_owlCoins_1 (fun c => ?_) (fun c => ?_)
  · rw [if_pos c] at h
    refine cw_iconst 0 d_P_owlCoins_19 rfl ?_
    obtain rfl := Option.some.inj h
    exact K_q1
  · rw [if_neg c] at h
    refine ev_iload_n (k0 := 1) rfl d_P_owlCoins_4 ?_
    refine ev_aload_n (k0 := 0) rfl d_P_owlCoins_5 ?_
    obtain ⟨b7, h⟩ := chk_some h
    refine cv_get9 (.inr (0, off 7 ((μ 12 0 3).toNatClampNeg))) hG v_12 fg_ProphecyShop_35_12 rfl rfl d_P_owlCoins_6 ?_
    refine cv_get9 (.inl (.int (μ 7 ((μ 12 0 3).toNatClampNeg) 11))) hG (show vc 7 _ from dlt9 b7) fg_ProphecyShop_252_7 rfl rfl d_P_owlCoins_9 ?_
    refine ev_icmp_ge (tgt := 19) (by decide) d_P_owlCoins_12 (fun c => ?_) (fun c => ?_)
    · rw [if_pos c] at h
      refine cw_iconst 0 d_P_owlCoins_19 rfl ?_
      obtain rfl := Option.some.inj h
      exact K_q1
    · rw [if_neg c] at h
      refine cw_iconst 1 d_P_owlCoins_15 rfl ?_
      refine ev_goto (tgt := 20) (by decide) d_P_owlCoins_16 ?_
      obtain rfl := Option.some.inj h
      exact K_q1

/-- ProphecyShop.owlDays -/
def f_P_owlDays (x1 : Int32) (μ : Mem) : Option (String ⊕ Int32) :=
  ((if x1 < 0 then (some (0)) else (chk (decide ((μ 12 0 3).toNatClampNeg < 2)) (if (μ 7 ((μ 12 0 3).toNatClampNeg) 11) ≤ x1 then (some (0)) else (some (1)))) : Option (Int32))).bind (fun q1 => ((f_P_throwIfMissing q1 μ)).bind (fun r2 => els r2 (fun E3 => some ((.inl E3))) (fun v4 => ((f_Shop_owlWith 0 x1 μ)).bind (fun r5 => chk (decide (r5 < 60)) (some (.inr (μ 4 r5 0)))))))
set_option maxRecDepth 100000 in
set_option maxHeartbeats 4000000 in
theorem w_P_owlDays {g : GL} {F G : RG} {nx : Nat} (d : Nat) {x1 : Int32} {μ : Mem}   {o : String ⊕ Int32} (hG : LM vc 0 535 μ F G) (h : f_P_owlDays x1 μ = some o) : Mt g (d + 1) m_P_owlDays [.inr (0, off 12 0), .inl (.int x1)] (G, nx) 1 6 (pRO (thR rI o) (G, nx)) := by
  unfold f_P_owlDays at h
  have kE : ∀ v, o = v → pRO (thR rI o) (G, nx) = pRO (thR rI v) (G, nx) := fun v e => by rw [e]
  refine Mt.of9 [some (.inr (0, off 12 0)), some (.inl (.int x1))] (by decide +kernel) rfl rfl rfl rfl ?_
  refine ev_iload_n (k0 := 1) rfl d_P_owlDays_0 ?_
  obtain ⟨q1, hj, h⟩ := bind_some9 h
  have K_q1 : Ev g (d + 1) m_P_owlDays 20 [some (.inr (0, off 12 0)), some (.inl (.int x1))] [.inl (.int q1)] (G, nx) 1 6 (pRO (thR rI o) (G, nx)) := by
    obtain ⟨r2, hr2, h⟩ := bind_some9 h
    rcases r2 with E3 | v4
    · have hP := kE _ (Option.some.inj h).symm
      refine cw_S (d := d + 0) (mc1 := 1) (ms1 := 6) (mc := 0) (ms := 0) [.inl (.int q1)] lk_ProphecyShop_178 (w_P_throwIfMissing (d + 0) hG hr2) rfl rfl d_P_owlDays_20 (aft_th rfl (by rw [hP]; exact ⟨rfl, rfl⟩))
    rw [els_r] at h
    refine cw_S (d := d + 0) (mc1 := 1) (ms1 := 6) (mc := 0) (ms := 0) [.inl (.int q1)] lk_ProphecyShop_178 (w_P_throwIfMissing (d + 0) hG hr2) rfl rfl d_P_owlDays_20 (aft_ro ?_)
    refine Ev.at (pc' := 23) rfl (Ev.cong (st' := []) ?_ rfl rfl)
    refine ev_aload_n (k0 := 0) rfl d_P_owlDays_23 ?_
    refine cv_get9 (.inr (0, off 9 0)) hG v_12 fg_ProphecyShop_47_12 rfl rfl d_P_owlDays_24 ?_
    refine ev_iload_n (k0 := 1) rfl d_P_owlDays_27 ?_
    obtain ⟨r5, hr5, h⟩ := bind_some9 h
    refine cv_V (d := d + 0) (mc1 := 0) (ms1 := 0) (mc := 0) (ms := 0) [.inl (.int x1)] hG (show vc 9 0 from (by decide : 0 < 12)) rfl lk_ProphecyShop_255 (w_Shop_owlWith (d + 0) (show vc 9 0 from (by decide : 0 < 12)) hG hr5) rfl rfl d_P_owlDays_28 (aft_ro ?_)
    obtain ⟨b6, h⟩ := chk_some h
    refine Ev.at (pc' := 31) rfl (Ev.cong (st' := [.inr (0, off 4 r5)]) ?_ rfl rfl)
    refine cv_get9 (.inl (.int (μ 4 r5 0))) hG (show vc 4 _ from dlt9 b6) fg_ProphecyShop_259_4 rfl rfl d_P_owlDays_31 ?_
    have hP := kE _ (Option.some.inj h).symm
    exact ev_ireturn (st := []) rfl rfl d_P_owlDays_34 (by rw [hP]; exact ⟨rfl, rfl⟩)
  clear h
  have h := hj
  refine ev_if_lt (tgt := 19) (by decide) d_P_owlDays_1 (fun c => ?_) (fun c => ?_)
  · rw [if_pos c] at h
    refine cw_iconst 0 d_P_owlDays_19 rfl ?_
    obtain rfl := Option.some.inj h
    exact K_q1
  · rw [if_neg c] at h
    refine ev_iload_n (k0 := 1) rfl d_P_owlDays_4 ?_
    refine ev_aload_n (k0 := 0) rfl d_P_owlDays_5 ?_
    obtain ⟨b7, h⟩ := chk_some h
    refine cv_get9 (.inr (0, off 7 ((μ 12 0 3).toNatClampNeg))) hG v_12 fg_ProphecyShop_35_12 rfl rfl d_P_owlDays_6 ?_
    refine cv_get9 (.inl (.int (μ 7 ((μ 12 0 3).toNatClampNeg) 11))) hG (show vc 7 _ from dlt9 b7) fg_ProphecyShop_252_7 rfl rfl d_P_owlDays_9 ?_
    refine ev_icmp_ge (tgt := 19) (by decide) d_P_owlDays_12 (fun c => ?_) (fun c => ?_)
    · rw [if_pos c] at h
      refine cw_iconst 0 d_P_owlDays_19 rfl ?_
      obtain rfl := Option.some.inj h
      exact K_q1
    · rw [if_neg c] at h
      refine cw_iconst 1 d_P_owlDays_15 rfl ?_
      refine ev_goto (tgt := 20) (by decide) d_P_owlDays_16 ?_
      obtain rfl := Option.some.inj h
      exact K_q1

/-- ProphecyShop.placeCount -/
def f_P_placeCount  (μ : Mem) : Option (Int32) :=
  chk (decide ((μ 12 0 3).toNatClampNeg < 2)) (some (μ 3 (3 * ((μ 12 0 3).toNatClampNeg) + 1) 1))
set_option maxRecDepth 100000 in
set_option maxHeartbeats 4000000 in
theorem w_P_placeCount {g : GL} {F G : RG} {nx : Nat} (d : Nat)  {μ : Mem}   {o : Int32} (hG : LM vc 0 535 μ F G) (h : f_P_placeCount  μ = some o) : Mt g (d + 0) m_P_placeCount [.inr (0, off 12 0)] (G, nx) 0 0 (pRO (rI o) (G, nx)) := by
  unfold f_P_placeCount at h
  have kE : ∀ v, o = v → pRO (rI o) (G, nx) = pRO (rI v) (G, nx) := fun v e => by rw [e]
  refine Mt.of9 [some (.inr (0, off 12 0))] (by decide +kernel) rfl rfl rfl rfl ?_
  refine ev_aload_n (k0 := 0) rfl d_P_placeCount_0 ?_
  obtain ⟨b1, h⟩ := chk_some h
  refine cv_get9 (.inr (0, off 7 ((μ 12 0 3).toNatClampNeg))) hG v_12 fg_ProphecyShop_35_12 rfl rfl d_P_placeCount_1 ?_
  refine cv_get9 (.inr (0, off 3 (3 * ((μ 12 0 3).toNatClampNeg) + 1))) hG (show vc 7 _ from dlt9 b1) fg_ProphecyShop_161_7 rfl rfl d_P_placeCount_4 ?_
  refine cv_get9 (.inl (.int (μ 3 (3 * ((μ 12 0 3).toNatClampNeg) + 1) 1))) hG (tv_7_6 (show vc 7 _ from dlt9 b1)) fg_ProphecyShop_156_3 rfl rfl d_P_placeCount_7 ?_
  have hP := kE _ (Option.some.inj h).symm
  exact ev_ireturn (st := []) rfl rfl d_P_placeCount_10 (by rw [hP]; exact ⟨rfl, rfl⟩)

/-- ProphecyShop.placeInQueue -/
def f_P_placeInQueue (x1 : Int32) (μ : Mem) : Option (String ⊕ Int32) :=
  ((f_Shop_hasSold 0 x1 μ)).bind (fun r1 => ((f_P_throwIfMissing r1 μ)).bind (fun r2 => els r2 (fun E3 => some ((.inl E3))) (fun v4 => ((f_Shop_requestsBefore 0 x1 μ)).bind (fun r5 => some (.inr r5)))))
set_option maxRecDepth 100000 in
set_option maxHeartbeats 4000000 in
theorem w_P_placeInQueue {g : GL} {F G : RG} {nx : Nat} (d : Nat) {x1 : Int32} {μ : Mem}   {o : String ⊕ Int32} (hG : LM vc 0 535 μ F G) (h : f_P_placeInQueue x1 μ = some o) : Mt g (d + 1) m_P_placeInQueue [.inr (0, off 12 0), .inl (.int x1)] (G, nx) 1 6 (pRO (thR rI o) (G, nx)) := by
  unfold f_P_placeInQueue at h
  have kE : ∀ v, o = v → pRO (thR rI o) (G, nx) = pRO (thR rI v) (G, nx) := fun v e => by rw [e]
  refine Mt.of9 [some (.inr (0, off 12 0)), some (.inl (.int x1))] (by decide +kernel) rfl rfl rfl rfl ?_
  refine ev_aload_n (k0 := 0) rfl d_P_placeInQueue_0 ?_
  refine cv_get9 (.inr (0, off 9 0)) hG v_12 fg_ProphecyShop_47_12 rfl rfl d_P_placeInQueue_1 ?_
  refine ev_iload_n (k0 := 1) rfl d_P_placeInQueue_4 ?_
  obtain ⟨r1, hr1, h⟩ := bind_some9 h
  refine cv_V (d := d + 0) (mc1 := 0) (ms1 := 0) (mc := 1) (ms := 6) [.inl (.int x1)] hG (show vc 9 0 from (by decide : 0 < 12)) rfl lk_ProphecyShop_240 (w_Shop_hasSold (d + 0) (show vc 9 0 from (by decide : 0 < 12)) hG hr1) rfl rfl d_P_placeInQueue_5 (aft_ro ?_)
  refine Ev.at (pc' := 8) rfl (Ev.cong (st' := [.inl (.int r1)]) ?_ rfl rfl)
  obtain ⟨r2, hr2, h⟩ := bind_some9 h
  rcases r2 with E3 | v4
  · have hP := kE _ (Option.some.inj h).symm
    refine cw_S (d := d + 0) (mc1 := 1) (ms1 := 6) (mc := 0) (ms := 0) [.inl (.int r1)] lk_ProphecyShop_178 (w_P_throwIfMissing (d + 0) hG hr2) rfl rfl d_P_placeInQueue_8 (aft_th rfl (by rw [hP]; exact ⟨rfl, rfl⟩))
  rw [els_r] at h
  refine cw_S (d := d + 0) (mc1 := 1) (ms1 := 6) (mc := 0) (ms := 0) [.inl (.int r1)] lk_ProphecyShop_178 (w_P_throwIfMissing (d + 0) hG hr2) rfl rfl d_P_placeInQueue_8 (aft_ro ?_)
  refine Ev.at (pc' := 11) rfl (Ev.cong (st' := []) ?_ rfl rfl)
  refine ev_aload_n (k0 := 0) rfl d_P_placeInQueue_11 ?_
  refine cv_get9 (.inr (0, off 9 0)) hG v_12 fg_ProphecyShop_47_12 rfl rfl d_P_placeInQueue_12 ?_
  refine ev_iload_n (k0 := 1) rfl d_P_placeInQueue_15 ?_
  obtain ⟨r5, hr5, h⟩ := bind_some9 h
  refine cv_V (d := d + 0) (mc1 := 0) (ms1 := 0) (mc := 0) (ms := 0) [.inl (.int x1)] hG (show vc 9 0 from (by decide : 0 < 12)) rfl lk_ProphecyShop_243 (w_Shop_requestsBefore (d + 0) (show vc 9 0 from (by decide : 0 < 12)) hG hr5) rfl rfl d_P_placeInQueue_16 (aft_ro ?_)
  refine Ev.at (pc' := 19) rfl (Ev.cong (st' := [.inl (.int r5)]) ?_ rfl rfl)
  have hP := kE _ (Option.some.inj h).symm
  exact ev_ireturn (st := []) rfl rfl d_P_placeInQueue_19 (by rw [hP]; exact ⟨rfl, rfl⟩)

/-- ProphecyShop.placeOf -/
def f_P_placeOf (x1 : Int32) (μ : Mem) : Option (String ⊕ Int32) :=
  ((f_P_prophecyWith x1 μ)).bind (fun r1 => els r1 (fun E2 => some ((.inl E2))) (fun v3 => chk (decide (v3 < 288)) (some (.inr (μ 5 v3 3)))))
set_option maxRecDepth 100000 in
set_option maxHeartbeats 4000000 in
theorem w_P_placeOf {g : GL} {F G : RG} {nx : Nat} (d : Nat) {x1 : Int32} {μ : Mem}   {o : String ⊕ Int32} (hG : LM vc 0 535 μ F G) (h : f_P_placeOf x1 μ = some o) : Mt g (d + 3) m_P_placeOf [.inr (0, off 12 0), .inl (.int x1)] (G, nx) 1 6 (pRO (thR rI o) (G, nx)) := by
  unfold f_P_placeOf at h
  have kE : ∀ v, o = v → pRO (thR rI o) (G, nx) = pRO (thR rI v) (G, nx) := fun v e => by rw [e]
  refine Mt.of9 [some (.inr (0, off 12 0)), some (.inl (.int x1))] (by decide +kernel) rfl rfl rfl rfl ?_
  refine ev_aload_n (k0 := 0) rfl d_P_placeOf_0 ?_
  refine ev_iload_n (k0 := 1) rfl d_P_placeOf_1 ?_
  obtain ⟨r1, hr1, h⟩ := bind_some9 h
  rcases r1 with E2 | v3
  · have hP := kE _ (Option.some.inj h).symm
    refine cv_V (d := d + 2) (mc1 := 1) (ms1 := 6) (mc := 0) (ms := 0) [.inl (.int x1)] hG v_12 rfl lk_ProphecyShop_198 (w_P_prophecyWith (d + 0) hG hr1) rfl rfl d_P_placeOf_2 (aft_th rfl (by rw [hP]; exact ⟨rfl, rfl⟩))
  rw [els_r] at h
  refine cv_V (d := d + 2) (mc1 := 1) (ms1 := 6) (mc := 0) (ms := 0) [.inl (.int x1)] hG v_12 rfl lk_ProphecyShop_198 (w_P_prophecyWith (d + 0) hG hr1) rfl rfl d_P_placeOf_2 (aft_ro ?_)
  obtain ⟨b4, h⟩ := chk_some h
  refine Ev.at (pc' := 5) rfl (Ev.cong (st' := [.inr (0, off 5 v3)]) ?_ rfl rfl)
  refine cv_get9 (.inl (.int (μ 5 v3 3))) hG (show vc 5 _ from dlt9 b4) fg_ProphecyShop_210_5 rfl rfl d_P_placeOf_5 ?_
  have hP := kE _ (Option.some.inj h).symm
  exact ev_ireturn (st := []) rfl rfl d_P_placeOf_8 (by rw [hP]; exact ⟨rfl, rfl⟩)

/-- ProphecyShop.prophecyCount -/
def f_P_prophecyCount  (μ : Mem) : Option (Int32) :=
  some (μ 9 0 5)
set_option maxRecDepth 100000 in
set_option maxHeartbeats 4000000 in
theorem w_P_prophecyCount {g : GL} {F G : RG} {nx : Nat} (d : Nat)  {μ : Mem}   {o : Int32} (hG : LM vc 0 535 μ F G) (h : f_P_prophecyCount  μ = some o) : Mt g (d + 0) m_P_prophecyCount [.inr (0, off 12 0)] (G, nx) 0 0 (pRO (rI o) (G, nx)) := by
  unfold f_P_prophecyCount at h
  have kE : ∀ v, o = v → pRO (rI o) (G, nx) = pRO (rI v) (G, nx) := fun v e => by rw [e]
  refine Mt.of9 [some (.inr (0, off 12 0))] (by decide +kernel) rfl rfl rfl rfl ?_
  refine ev_aload_n (k0 := 0) rfl d_P_prophecyCount_0 ?_
  refine cv_get9 (.inr (0, off 9 0)) hG v_12 fg_ProphecyShop_47_12 rfl rfl d_P_prophecyCount_1 ?_
  refine cv_get9 (.inl (.int (μ 9 0 5))) hG (show vc 9 0 from (by decide : 0 < 12)) fg_ProphecyShop_195_9 rfl rfl d_P_prophecyCount_4 ?_
  have hP := kE _ (Option.some.inj h).symm
  exact ev_ireturn (st := []) rfl rfl d_P_prophecyCount_7 (by rw [hP]; exact ⟨rfl, rfl⟩)

/-- ProphecyShop$Shop.coinsOf -/
def f_Shop_coinsOf (j0 : Nat) (x1 : Int32) (μ : Mem) : Option (Int32) :=
  if x1 < 0 then some 0 else (if (8 : Int32) ≤ x1 then some 0 else (chk (inb x1 8) (some (μ 27 j0 x1.toNatClampNeg))))
set_option maxRecDepth 100000 in
set_option maxHeartbeats 4000000 in
theorem w_Shop_coinsOf {g : GL} {F G : RG} {nx : Nat} (d : Nat) {j0 : Nat} {x1 : Int32} {μ : Mem} (hv0 : vc 9 j0)  {o : Int32} (hG : LM vc 0 535 μ F G) (h : f_Shop_coinsOf j0 x1 μ = some o) : Mt g (d + 0) m_Shop_coinsOf [.inr (0, off 9 j0), .inl (.int x1)] (G, nx) 0 0 (pRO (rI o) (G, nx)) := by
  unfold f_Shop_coinsOf at h
  have kE : ∀ v, o = v → pRO (rI o) (G, nx) = pRO (rI v) (G, nx) := fun v e => by rw [e]
  refine Mt.of9 [some (.inr (0, off 9 j0)), some (.inl (.int x1))] (by decide +kernel) rfl rfl rfl rfl ?_
  refine ev_iload_n (k0 := 1) rfl d_Shop_coinsOf_0 ?_
  refine ev_if_lt (tgt := 19) (by decide) d_Shop_coinsOf_1 (fun c => ?_) (fun c => ?_)
  · rw [if_pos c] at h
    refine cw_iconst 0 d_Shop_coinsOf_19 rfl ?_
    have hP := kE _ (Option.some.inj h).symm
    exact ev_ireturn (st := []) rfl rfl d_Shop_coinsOf_20 (by rw [hP]; exact ⟨rfl, rfl⟩)
  · rw [if_neg c] at h
    refine ev_iload_n (k0 := 1) rfl d_Shop_coinsOf_4 ?_
    refine cw_bipush 8 d_Shop_coinsOf_5 rfl ?_
    refine ev_icmp_ge (tgt := 19) (by decide) d_Shop_coinsOf_7 (fun c => ?_) (fun c => ?_)
    · rw [if_pos c] at h
      refine cw_iconst 0 d_Shop_coinsOf_19 rfl ?_
      have hP := kE _ (Option.some.inj h).symm
      exact ev_ireturn (st := []) rfl rfl d_Shop_coinsOf_20 (by rw [hP]; exact ⟨rfl, rfl⟩)
    · rw [if_neg c] at h
      refine ev_aload_n (k0 := 0) rfl d_Shop_coinsOf_10 ?_
      refine cv_get9 (.inr (0, off 27 j0)) hG hv0 fg_Shop_18_9 rfl rfl d_Shop_coinsOf_11 ?_
      refine ev_iload_n (k0 := 1) rfl d_Shop_coinsOf_14 ?_
      obtain ⟨b1, h⟩ := chk_some h
      refine cv_iald hG (tv_9_3 hv0) rfl rfl b1 rfl d_Shop_coinsOf_15 ?_
      refine ev_goto (tgt := 20) (by decide) d_Shop_coinsOf_16 ?_
      have hP := kE _ (Option.some.inj h).symm
      exact ev_ireturn (st := []) rfl rfl d_Shop_coinsOf_20 (by rw [hP]; exact ⟨rfl, rfl⟩)

/-- ProphecyShop.purse -/
def f_P_purse (x1 : Int32) (μ : Mem) : Option (String ⊕ Int32) :=
  chk (decide ((μ 12 0 3).toNatClampNeg < 2)) (((f_Names_has (3 * ((μ 12 0 3).toNatClampNeg) + 2) x1 μ)).bind (fun r2 => ((f_P_throwIfMissing r2 μ)).bind (fun r3 => els r3 (fun E4 => some ((.inl E4))) (fun v5 => ((f_Shop_coinsOf 0 x1 μ)).bind (fun r6 => some (.inr r6))))))
set_option maxRecDepth 100000 in
set_option maxHeartbeats 4000000 in
theorem w_P_purse {g : GL} {F G : RG} {nx : Nat} (d : Nat) {x1 : Int32} {μ : Mem}   {o : String ⊕ Int32} (hG : LM vc 0 535 μ F G) (h : f_P_purse x1 μ = some o) : Mt g (d + 1) m_P_purse [.inr (0, off 12 0), .inl (.int x1)] (G, nx) 1 6 (pRO (thR rI o) (G, nx)) := by
  unfold f_P_purse at h
  have kE : ∀ v, o = v → pRO (thR rI o) (G, nx) = pRO (thR rI v) (G, nx) := fun v e => by rw [e]
  refine Mt.of9 [some (.inr (0, off 12 0)), some (.inl (.int x1))] (by decide +kernel) rfl rfl rfl rfl ?_
  refine ev_aload_n (k0 := 0) rfl d_P_purse_0 ?_
  obtain ⟨b1, h⟩ := chk_some h
  refine cv_get9 (.inr (0, off 7 ((μ 12 0 3).toNatClampNeg))) hG v_12 fg_ProphecyShop_35_12 rfl rfl d_P_purse_1 ?_
  refine cv_get9 (.inr (0, off 3 (3 * ((μ 12 0 3).toNatClampNeg) + 2))) hG (show vc 7 _ from dlt9 b1) fg_ProphecyShop_164_7 rfl rfl d_P_purse_4 ?_
  refine ev_iload_n (k0 := 1) rfl d_P_purse_7 ?_
  obtain ⟨r2, hr2, h⟩ := bind_some9 h
  refine cv_V (d := d + 0) (mc1 := 0) (ms1 := 0) (mc := 1) (ms := 6) [.inl (.int x1)] hG (tv_7_7 (show vc 7 _ from dlt9 b1)) rfl lk_ProphecyShop_174 (w_Names_has (d + 0) (tv_7_7 (show vc 7 _ from dlt9 b1)) hG hr2) rfl rfl d_P_purse_8 (aft_ro ?_)
  refine Ev.at (pc' := 11) rfl (Ev.cong (st' := [.inl (.int r2)]) ?_ rfl rfl)
  obtain ⟨r3, hr3, h⟩ := bind_some9 h
  rcases r3 with E4 | v5
  · have hP := kE _ (Option.some.inj h).symm
    refine cw_S (d := d + 0) (mc1 := 1) (ms1 := 6) (mc := 0) (ms := 0) [.inl (.int r2)] lk_ProphecyShop_178 (w_P_throwIfMissing (d + 0) hG hr3) rfl rfl d_P_purse_11 (aft_th rfl (by rw [hP]; exact ⟨rfl, rfl⟩))
  rw [els_r] at h
  refine cw_S (d := d + 0) (mc1 := 1) (ms1 := 6) (mc := 0) (ms := 0) [.inl (.int r2)] lk_ProphecyShop_178 (w_P_throwIfMissing (d + 0) hG hr3) rfl rfl d_P_purse_11 (aft_ro ?_)
  refine Ev.at (pc' := 14) rfl (Ev.cong (st' := []) ?_ rfl rfl)
  refine ev_aload_n (k0 := 0) rfl d_P_purse_14 ?_
  refine cv_get9 (.inr (0, off 9 0)) hG v_12 fg_ProphecyShop_47_12 rfl rfl d_P_purse_15 ?_
  refine ev_iload_n (k0 := 1) rfl d_P_purse_18 ?_
  obtain ⟨r6, hr6, h⟩ := bind_some9 h
  refine cv_V (d := d + 0) (mc1 := 0) (ms1 := 0) (mc := 0) (ms := 0) [.inl (.int x1)] hG (show vc 9 0 from (by decide : 0 < 12)) rfl lk_ProphecyShop_182 (w_Shop_coinsOf (d + 0) (show vc 9 0 from (by decide : 0 < 12)) hG hr6) rfl rfl d_P_purse_19 (aft_ro ?_)
  refine Ev.at (pc' := 22) rfl (Ev.cong (st' := [.inl (.int r6)]) ?_ rfl rfl)
  have hP := kE _ (Option.some.inj h).symm
  exact ev_ireturn (st := []) rfl rfl d_P_purse_22 (by rw [hP]; exact ⟨rfl, rfl⟩)

/-- ProphecyShop.queueLength -/
def f_P_queueLength  (μ : Mem) : Option (Int32) :=
  some (μ 9 0 8)
set_option maxRecDepth 100000 in
set_option maxHeartbeats 4000000 in
theorem w_P_queueLength {g : GL} {F G : RG} {nx : Nat} (d : Nat)  {μ : Mem}   {o : Int32} (hG : LM vc 0 535 μ F G) (h : f_P_queueLength  μ = some o) : Mt g (d + 0) m_P_queueLength [.inr (0, off 12 0)] (G, nx) 0 0 (pRO (rI o) (G, nx)) := by
  unfold f_P_queueLength at h
  have kE : ∀ v, o = v → pRO (rI o) (G, nx) = pRO (rI v) (G, nx) := fun v e => by rw [e]
  refine Mt.of9 [some (.inr (0, off 12 0))] (by decide +kernel) rfl rfl rfl rfl ?_
  refine ev_aload_n (k0 := 0) rfl d_P_queueLength_0 ?_
  refine cv_get9 (.inr (0, off 9 0)) hG v_12 fg_ProphecyShop_47_12 rfl rfl d_P_queueLength_1 ?_
  refine cv_get9 (.inl (.int (μ 9 0 8))) hG (show vc 9 0 from (by decide : 0 < 12)) fg_ProphecyShop_237_9 rfl rfl d_P_queueLength_4 ?_
  have hP := kE _ (Option.some.inj h).symm
  exact ev_ireturn (st := []) rfl rfl d_P_queueLength_7 (by rw [hP]; exact ⟨rfl, rfl⟩)

/-- ProphecyShop.refundOf -/
def f_P_refundOf (x1 : Int32) (μ : Mem) : Option (String ⊕ Int32) :=
  ((f_P_prophecyWith x1 μ)).bind (fun r1 => els r1 (fun E2 => some ((.inl E2))) (fun v3 => chk (decide (v3 < 288)) (((f_Shop_refundFor 0 v3 μ)).bind (fun r5 => some (.inr r5)))))
set_option maxRecDepth 100000 in
set_option maxHeartbeats 4000000 in
theorem w_P_refundOf {g : GL} {F G : RG} {nx : Nat} (d : Nat) {x1 : Int32} {μ : Mem}   {o : String ⊕ Int32} (hG : LM vc 0 535 μ F G) (h : f_P_refundOf x1 μ = some o) : Mt g (d + 3) m_P_refundOf [.inr (0, off 12 0), .inl (.int x1)] (G, nx) 1 6 (pRO (thR rI o) (G, nx)) := by
  unfold f_P_refundOf at h
  have kE : ∀ v, o = v → pRO (thR rI o) (G, nx) = pRO (thR rI v) (G, nx) := fun v e => by rw [e]
  refine Mt.of9 [some (.inr (0, off 12 0)), some (.inl (.int x1))] (by decide +kernel) rfl rfl rfl rfl ?_
  refine ev_aload_n (k0 := 0) rfl d_P_refundOf_0 ?_
  refine cv_get9 (.inr (0, off 9 0)) hG v_12 fg_ProphecyShop_47_12 rfl rfl d_P_refundOf_1 ?_
  refine ev_aload_n (k0 := 0) rfl d_P_refundOf_4 ?_
  refine ev_iload_n (k0 := 1) rfl d_P_refundOf_5 ?_
  obtain ⟨r1, hr1, h⟩ := bind_some9 h
  rcases r1 with E2 | v3
  · have hP := kE _ (Option.some.inj h).symm
    refine cv_V (d := d + 2) (mc1 := 1) (ms1 := 6) (mc := 0) (ms := 0) [.inl (.int x1)] hG v_12 rfl lk_ProphecyShop_198 (w_P_prophecyWith (d + 0) hG hr1) rfl rfl d_P_refundOf_6 (aft_th rfl (by rw [hP]; exact ⟨rfl, rfl⟩))
  rw [els_r] at h
  refine cv_V (d := d + 2) (mc1 := 1) (ms1 := 6) (mc := 0) (ms := 0) [.inl (.int x1)] hG v_12 rfl lk_ProphecyShop_198 (w_P_prophecyWith (d + 0) hG hr1) rfl rfl d_P_refundOf_6 (aft_ro ?_)
  obtain ⟨b4, h⟩ := chk_some h
  refine Ev.at (pc' := 9) rfl (Ev.cong (st' := [.inr (0, off 5 v3), .inr (0, off 9 0)]) ?_ rfl rfl)
  obtain ⟨r5, hr5, h⟩ := bind_some9 h
  refine cv_V (d := d + 2) (mc1 := 0) (ms1 := 0) (mc := 0) (ms := 0) [.inr (0, off 5 v3)] hG (show vc 9 0 from (by decide : 0 < 12)) rfl lk_ProphecyShop_233 (w_Shop_refundFor (d + 2) (show vc 9 0 from (by decide : 0 < 12)) (show vc 5 _ from dlt9 b4) hG hr5) rfl rfl d_P_refundOf_9 (aft_ro ?_)
  refine Ev.at (pc' := 12) rfl (Ev.cong (st' := [.inl (.int r5)]) ?_ rfl rfl)
  have hP := kE _ (Option.some.inj h).symm
  exact ev_ireturn (st := []) rfl rfl d_P_refundOf_12 (by rw [hP]; exact ⟨rfl, rfl⟩)

/-- ProphecyShop.refundTotal -/
def f_P_refundTotal  (μ : Mem) : Option (Int32) :=
  some (μ 9 0 14)
set_option maxRecDepth 100000 in
set_option maxHeartbeats 4000000 in
theorem w_P_refundTotal {g : GL} {F G : RG} {nx : Nat} (d : Nat)  {μ : Mem}   {o : Int32} (hG : LM vc 0 535 μ F G) (h : f_P_refundTotal  μ = some o) : Mt g (d + 0) m_P_refundTotal [.inr (0, off 12 0)] (G, nx) 0 0 (pRO (rI o) (G, nx)) := by
  unfold f_P_refundTotal at h
  have kE : ∀ v, o = v → pRO (rI o) (G, nx) = pRO (rI v) (G, nx) := fun v e => by rw [e]
  refine Mt.of9 [some (.inr (0, off 12 0))] (by decide +kernel) rfl rfl rfl rfl ?_
  refine ev_aload_n (k0 := 0) rfl d_P_refundTotal_0 ?_
  refine cv_get9 (.inr (0, off 9 0)) hG v_12 fg_ProphecyShop_47_12 rfl rfl d_P_refundTotal_1 ?_
  refine cv_get9 (.inl (.int (μ 9 0 14))) hG (show vc 9 0 from (by decide : 0 < 12)) fg_ProphecyShop_275_9 rfl rfl d_P_refundTotal_4 ?_
  have hP := kE _ (Option.some.inj h).symm
  exact ev_ireturn (st := []) rfl rfl d_P_refundTotal_7 (by rw [hP]; exact ⟨rfl, rfl⟩)

/-- ProphecyShop.restore -/
def f_P_restore (x1 : Int32) (μ : Mem) : Option ((String ⊕ Int32) × Mem) :=
  ((if x1 < 0 then (some (0)) else (if (2 : Int32) ≤ x1 then (some (0)) else (some (1))) : Option (Int32))).bind (fun q1 => ((f_P_throwIfMissing q1 μ)).bind (fun r2 => els r2 (fun E3 => some ((.inl E3, μ))) (fun v4 => chk (inb x1 2) (if (μ 36 0 x1.toNatClampNeg) = 0 then (some ((.inl xNSE, μ))) else (chk (inb x1 2) (((f_Shop_copyFrom 0 (10 + x1.toNatClampNeg) μ)).bind (fun r7 => nm (st3 r7 2 0 1 0) (fun μ8 => some ((.inr (μ8 9 0 1), μ8))))))))))
set_option maxRecDepth 100000 in
set_option maxHeartbeats 4000000 in
theorem w_P_restore {g : GL} {F G : RG} {nx : Nat} (d : Nat) {x1 : Int32} {μ : Mem}   {o : (String ⊕ Int32) × Mem} (hG : LM vc 0 535 μ F G) (h : f_P_restore x1 μ = some o) : Mt g (d + 2) m_P_restore [.inr (0, off 12 0), .inl (.int x1)] (G, nx) 2 12 (pRW vc 0 535 (thR rI o.1) o.2 F nx) := by
  unfold f_P_restore at h
  have kE : ∀ v, o = v → pRW vc 0 535 (thR rI o.1) o.2 F nx = pRW vc 0 535 (thR rI v.1) v.2 F nx := fun v e => by rw [e]
  refine Mt.of9 [some (.inr (0, off 12 0)), some (.inl (.int x1))] (by decide +kernel) rfl rfl rfl rfl ?_
  refine ev_iload_n (k0 := 1) rfl d_P_restore_0 ?_
  obtain ⟨q1, hj, h⟩ := bind_some9 h
  have K_q1 : Ev g (d + 2) m_P_restore 14 [some (.inr (0, off 12 0)), some (.inl (.int x1))] [.inl (.int q1)] (G, nx) 2 12 (pRW vc 0 535 (thR rI o.1) o.2 F nx) := by
    obtain ⟨r2, hr2, h⟩ := bind_some9 h
    rcases r2 with E3 | v4
    · have hP := kE _ (Option.some.inj h).symm
      refine cw_S (d := d + 1) (mc1 := 1) (ms1 := 6) (mc := 1) (ms := 6) [.inl (.int q1)] lk_ProphecyShop_178 (w_P_throwIfMissing (d + 1) hG hr2) rfl rfl d_P_restore_14 (aft_th rfl (by rw [hP]; exact ⟨rfl, hG, rfl⟩))
    rw [els_r] at h
    refine cw_S (d := d + 1) (mc1 := 1) (ms1 := 6) (mc := 1) (ms := 6) [.inl (.int q1)] lk_ProphecyShop_178 (w_P_throwIfMissing (d + 1) hG hr2) rfl rfl d_P_restore_14 (aft_ro ?_)
    refine Ev.at (pc' := 17) rfl (Ev.cong (st' := []) ?_ rfl rfl)
    refine ev_aload_n (k0 := 0) rfl d_P_restore_17 ?_
    refine cv_get9 (.inr (0, off 36 0)) hG v_12 fg_ProphecyShop_65_12 rfl rfl d_P_restore_18 ?_
    refine ev_iload_n (k0 := 1) rfl d_P_restore_21 ?_
    obtain ⟨b5, h⟩ := chk_some h
    refine cv_zald hG v_36 rfl rfl b5 rfl d_P_restore_22 ?_
    refine ev_if_ne (tgt := 37) (by decide) d_P_restore_23 (fun c => ?_) (fun c => ?_)
    · rw [if_neg c] at h
      refine ev_aload_n (k0 := 0) rfl d_P_restore_37 ?_
      refine cv_get9 (.inr (0, off 9 0)) hG v_12 fg_ProphecyShop_47_12 rfl rfl d_P_restore_38 ?_
      refine ev_aload_n (k0 := 0) rfl d_P_restore_41 ?_
      refine cv_get9 (.inr (0, off 35 0)) hG v_12 fg_ProphecyShop_61_12 rfl rfl d_P_restore_42 ?_
      refine ev_iload_n (k0 := 1) rfl d_P_restore_45 ?_
      obtain ⟨b6, h⟩ := chk_some h
      refine cv_aald (.inr (0, off 9 (10 + x1.toNatClampNeg))) hG v_35 rfl rfl rfl b6 rfl d_P_restore_46 ?_
      obtain ⟨r7, hr7, h⟩ := bind_some9 h
      refine cv_V (d := d + 1) (mc1 := 0) (ms1 := 0) (mc := 1) (ms := 6) [.inr (0, off 9 (10 + x1.toNatClampNeg))] hG (show vc 9 0 from (by decide : 0 < 12)) rfl lk_ProphecyShop_296 (w_Shop_copyFrom (d + 0) (show vc 9 0 from (by decide : 0 < 12)) (ta_35 v_35 b6) hG hr7) rfl rfl d_P_restore_47 (aft_rw (fun G hG => ?_))
      refine Ev.at (pc' := 50) rfl (Ev.cong (st' := []) ?_ rfl rfl)
      refine ev_aload_n (k0 := 0) rfl d_P_restore_50 ?_
      refine cv_get9 (.inr (0, off 2 0)) hG v_12 fg_ProphecyShop_57_12 rfl rfl d_P_restore_51 ?_
      refine cw_iconst 0 d_P_restore_54 rfl ?_
      obtain ⟨μ8, e_μ8, h⟩ := nm_some h
      refine cv_put (.inl (.int 0)) 0 hG okC v_2 fl_ProphecyShop_348_2 rfl rfl okv_int d_P_restore_55 ?_
      intro G hG; rw [← e_μ8] at hG
      refine ev_aload_n (k0 := 0) rfl d_P_restore_58 ?_
      refine cv_get9 (.inr (0, off 9 0)) hG v_12 fg_ProphecyShop_47_12 rfl rfl d_P_restore_59 ?_
      refine cv_get9 (.inl (.int (μ8 9 0 1))) hG (show vc 9 0 from (by decide : 0 < 12)) fg_ProphecyShop_146_9 rfl rfl d_P_restore_62 ?_
      have hP := kE _ (Option.some.inj h).symm
      exact ev_ireturn (st := []) rfl rfl d_P_restore_65 (by rw [hP]; exact ⟨rfl, hG, rfl⟩)
    · rw [if_pos c] at h
      have hP := kE _ (Option.some.inj h).symm
      exact ev_throwN (mc := 0) (ms := 0) th_P_restore_26 rfl (Nat.le_of_ble_eq_true rfl) (by rw [hP]; exact ⟨rfl, hG, rfl⟩)
  clear h
  have h := hj
  refine ev_if_lt (tgt := 13) (by decide) d_P_restore_1 (fun c => ?_) (fun c => ?_)
  · rw [if_pos c] at h
    refine cw_iconst 0 d_P_restore_13 rfl ?_
    obtain rfl := Option.some.inj h
    exact K_q1
  · rw [if_neg c] at h
    refine ev_iload_n (k0 := 1) rfl d_P_restore_4 ?_
    refine cw_iconst 2 d_P_restore_5 rfl ?_
    refine ev_icmp_ge (tgt := 13) (by decide) d_P_restore_6 (fun c => ?_) (fun c => ?_)
    · rw [if_pos c] at h
      refine cw_iconst 0 d_P_restore_13 rfl ?_
      obtain rfl := Option.some.inj h
      exact K_q1
    · rw [if_neg c] at h
      refine cw_iconst 1 d_P_restore_9 rfl ?_
      refine ev_goto (tgt := 14) (by decide) d_P_restore_10 ?_
      obtain rfl := Option.some.inj h
      exact K_q1

/-- ProphecyShop$Script.addStep -/
def f_Script_addStep (x1 : Int32) (μ : Mem) : Option (Nat × Mem) :=
  ((if (60 : Int32) ≤ (μ 6 0 7) then (some (59)) else (some (μ 6 0 7)) : Option (Int32))).bind (fun q1 => chk (inb q1 60) (nm (st3 μ 10 q1.toNatClampNeg 0 x1) (fun μ3 => nm (st3 μ3 6 0 7 (q1 + 1)) (fun μ4 => chk (inb q1 60) (some ((q1.toNatClampNeg, μ4)))))))
set_option maxRecDepth 100000 in
set_option maxHeartbeats 4000000 in
theorem w_Script_addStep {g : GL} {F G : RG} {nx : Nat} (d : Nat) {x1 : Int32} {μ : Mem}   {o : Nat × Mem} (hG : LM vc 0 535 μ F G) (h : f_Script_addStep x1 μ = some o) : Mt g (d + 0) m_Script_addStep [.inr (0, off 6 0), .inl (.int x1)] (G, nx) 0 0 (pRW vc 0 535 ((rR 10) o.1) o.2 F nx) := by
  unfold f_Script_addStep at h
  have kE : ∀ v, o = v → pRW vc 0 535 ((rR 10) o.1) o.2 F nx = pRW vc 0 535 ((rR 10) v.1) v.2 F nx := fun v e => by rw [e]
  refine Mt.of9 [some (.inr (0, off 6 0)), some (.inl (.int x1)), none] (by decide +kernel) rfl rfl rfl rfl ?_
  refine ev_aload_n (k0 := 0) rfl d_Script_addStep_0 ?_
  refine cv_get9 (.inl (.int (μ 6 0 7))) hG v_6 fg_Script_17_6 rfl rfl d_Script_addStep_1 ?_
  refine cw_bipush 60 d_Script_addStep_4 rfl ?_
  obtain ⟨q1, hj, h⟩ := bind_some9 h
  have K_q1 : Ev g (d + 0) m_Script_addStep 18 [some (.inr (0, off 6 0)), some (.inl (.int x1)), none] [.inl (.int q1)] (G, nx) 0 0 (pRW vc 0 535 ((rR 10) o.1) o.2 F nx) := by
    refine cw_istoreN_n 2 q1 rfl [some (.inr (0, off 6 0)), some (.inl (.int x1)), some (.inl (.int q1))] d_Script_addStep_18 rfl rfl rfl ?_
    refine ev_aload_n (k0 := 0) rfl d_Script_addStep_19 ?_
    refine cv_get9 (.inr (0, off 21 0)) hG v_6 fg_Script_13_6 rfl rfl d_Script_addStep_20 ?_
    refine ev_iload_n (k0 := 2) rfl d_Script_addStep_23 ?_
    obtain ⟨b2, h⟩ := chk_some h
    refine cv_aald (.inr (0, off 10 q1.toNatClampNeg)) hG v_21 rfl rfl rfl b2 rfl d_Script_addStep_24 ?_
    refine ev_iload_n (k0 := 1) rfl d_Script_addStep_25 ?_
    obtain ⟨μ3, e_μ3, h⟩ := nm_some h
    refine cv_put (.inl (.int x1)) x1 hG okC (ta_21 v_21 b2) fl_Script_106_10 rfl rfl okv_int d_Script_addStep_26 ?_
    intro G hG; rw [← e_μ3] at hG
    refine ev_aload_n (k0 := 0) rfl d_Script_addStep_29 ?_
    refine ev_iload_n (k0 := 2) rfl d_Script_addStep_30 ?_
    refine cw_iconst 1 d_Script_addStep_31 rfl ?_
    refine ev_iadd d_Script_addStep_32 ?_
    refine Ev.at (pc' := 33) rfl ?_
    obtain ⟨μ4, e_μ4, h⟩ := nm_some h
    refine cv_put (.inl (.int (q1 + 1))) (q1 + 1) hG okC v_6 fl_Script_17_6 rfl rfl okv_int d_Script_addStep_33 ?_
    intro G hG; rw [← e_μ4] at hG
    refine ev_aload_n (k0 := 0) rfl d_Script_addStep_36 ?_
    refine cv_get9 (.inr (0, off 21 0)) hG v_6 fg_Script_13_6 rfl rfl d_Script_addStep_37 ?_
    refine ev_iload_n (k0 := 2) rfl d_Script_addStep_40 ?_
    obtain ⟨b5, h⟩ := chk_some h
    refine cv_aald (.inr (0, off 10 q1.toNatClampNeg)) hG v_21 rfl rfl rfl b5 rfl d_Script_addStep_41 ?_
    have hP := kE _ (Option.some.inj h).symm
    exact ev_areturn (st := []) rfl (Or.inl ⟨_, rfl⟩) d_Script_addStep_42 (by rw [hP]; exact ⟨rfl, hG, rfl⟩)
  clear h
  have h := hj
  refine ev_icmp_ge (tgt := 16) (by decide) d_Script_addStep_6 (fun c => ?_) (fun c => ?_)
  · rw [if_pos c] at h
    refine cw_bipush 59 d_Script_addStep_16 rfl ?_
    obtain rfl := Option.some.inj h
    exact K_q1
  · rw [if_neg c] at h
    refine ev_aload_n (k0 := 0) rfl d_Script_addStep_9 ?_
    refine cv_get9 (.inl (.int (μ 6 0 7))) hG v_6 fg_Script_17_6 rfl rfl d_Script_addStep_10 ?_
    refine ev_goto (tgt := 18) (by decide) d_Script_addStep_13 ?_
    obtain rfl := Option.some.inj h
    exact K_q1

/-- ProphecyShop$Script.stepAt -/
def f_Script_stepAt (x1 : Int32) (μ : Mem) : Option (Nat) :=
  if x1 < 0 then (chk (inb 0 60) (some ((0 : Int32).toNatClampNeg))) else (if (60 : Int32) ≤ x1 then (chk (inb 0 60) (some ((0 : Int32).toNatClampNeg))) else (chk (inb x1 60) (some x1.toNatClampNeg)))
set_option maxRecDepth 100000 in
set_option maxHeartbeats 4000000 in
theorem w_Script_stepAt {g : GL} {F G : RG} {nx : Nat} (d : Nat) {x1 : Int32} {μ : Mem}   {o : Nat} (hG : LM vc 0 535 μ F G) (h : f_Script_stepAt x1 μ = some o) : Mt g (d + 0) m_Script_stepAt [.inr (0, off 6 0), .inl (.int x1)] (G, nx) 0 0 (pRO ((rR 10) o) (G, nx)) := by
  unfold f_Script_stepAt at h
  have kE : ∀ v, o = v → pRO ((rR 10) o) (G, nx) = pRO ((rR 10) v) (G, nx) := fun v e => by rw [e]
  refine Mt.of9 [some (.inr (0, off 6 0)), some (.inl (.int x1))] (by decide +kernel) rfl rfl rfl rfl ?_
  refine ev_aload_n (k0 := 0) rfl d_Script_stepAt_0 ?_
  refine cv_get9 (.inr (0, off 21 0)) hG v_6 fg_Script_13_6 rfl rfl d_Script_stepAt_1 ?_
  refine ev_iload_n (k0 := 1) rfl d_Script_stepAt_4 ?_
  refine ev_if_lt (tgt := 18) (by decide) d_Script_stepAt_5 (fun c => ?_) (fun c => ?_)
  · rw [if_pos c] at h
    refine cw_iconst 0 d_Script_stepAt_18 rfl ?_
    obtain ⟨b1, h⟩ := chk_some h
    refine cv_aald (.inr (0, off 10 ((0 : Int32).toNatClampNeg))) hG v_21 rfl rfl rfl b1 rfl d_Script_stepAt_19 ?_
    have hP := kE _ (Option.some.inj h).symm
    exact ev_areturn (st := []) rfl (Or.inl ⟨_, rfl⟩) d_Script_stepAt_20 (by rw [hP]; exact ⟨rfl, rfl⟩)
  · rw [if_neg c] at h
    refine ev_iload_n (k0 := 1) rfl d_Script_stepAt_8 ?_
    refine cw_bipush 60 d_Script_stepAt_9 rfl ?_
    refine ev_icmp_ge (tgt := 18) (by decide) d_Script_stepAt_11 (fun c => ?_) (fun c => ?_)
    · rw [if_pos c] at h
      refine cw_iconst 0 d_Script_stepAt_18 rfl ?_
      obtain ⟨b2, h⟩ := chk_some h
      refine cv_aald (.inr (0, off 10 ((0 : Int32).toNatClampNeg))) hG v_21 rfl rfl rfl b2 rfl d_Script_stepAt_19 ?_
      have hP := kE _ (Option.some.inj h).symm
      exact ev_areturn (st := []) rfl (Or.inl ⟨_, rfl⟩) d_Script_stepAt_20 (by rw [hP]; exact ⟨rfl, rfl⟩)
    · rw [if_neg c] at h
      refine ev_iload_n (k0 := 1) rfl d_Script_stepAt_14 ?_
      refine ev_goto (tgt := 19) (by decide) d_Script_stepAt_15 ?_
      obtain ⟨b3, h⟩ := chk_some h
      refine cv_aald (.inr (0, off 10 x1.toNatClampNeg)) hG v_21 rfl rfl rfl b3 rfl d_Script_stepAt_19 ?_
      have hP := kE _ (Option.some.inj h).symm
      exact ev_areturn (st := []) rfl (Or.inl ⟨_, rfl⟩) d_Script_stepAt_20 (by rw [hP]; exact ⟨rfl, rfl⟩)

/-- ProphecyShop$Script.closeRepeat -/
def f_Script_closeRepeat  (μ : Mem) : Option (Mem) :=
  ((f_Reader_takeSign 6 41 μ)).bind (fun r1 => ((f_Reader_takeSign 6 59 r1)).bind (fun r2 => if (r2 6 0 10) ≤ 0 then some r2 else (nm (st3 r2 6 0 10 ((r2 6 0 10) - 1)) (fun μ3 => chk (inb (μ3 6 0 10) 2) (nm (μ3 22 0 (μ3 6 0 10).toNatClampNeg : Int32) (fun v5 => ((f_Script_addStep 5 μ3)).bind (fun r6 => chk (decide (r6.1 < 60)) (nm (st3 r6.2 10 r6.1 9 v5) (fun μ8 => ((f_Script_stepAt v5 μ8)).bind (fun r9 => chk (decide (r9 < 60)) (nm (st3 μ8 10 r9 9 ((μ8 6 0 7) - 1)) (fun μ11 => some μ11))))))))))))
set_option maxRecDepth 100000 in
set_option maxHeartbeats 4000000 in
theorem w_Script_closeRepeat {g : GL} {F G : RG} {nx : Nat} (d : Nat)  {μ : Mem}   {o : Mem} (hG : LM vc 0 535 μ F G) (h : f_Script_closeRepeat  μ = some o) : Mt g (d + 3) m_Script_closeRepeat [.inr (0, off 6 0)] (G, nx) 0 0 (pRW vc 0 535 rV o F nx) := by
  unfold f_Script_closeRepeat at h
  have kE : ∀ v, o = v → pRW vc 0 535 rV o F nx = pRW vc 0 535 rV v F nx := fun v e => by rw [e]
  refine Mt.of9 [some (.inr (0, off 6 0)), none] (by decide +kernel) rfl rfl rfl rfl ?_
  refine ev_aload_n (k0 := 0) rfl d_Script_closeRepeat_0 ?_
  refine cw_bipush 41 d_Script_closeRepeat_1 rfl ?_
  obtain ⟨r1, hr1, h⟩ := bind_some9 h
  refine cv_U (d := d + 2) (mc1 := 0) (ms1 := 0) (mc := 0) (ms := 0) [.inl (.int 41)] hG v_6 rfl lk_Script_87_6 (w_Reader_takeSign_6 (d + 0) hG hr1) rfl rfl d_Script_closeRepeat_3 (aft_rw (fun G hG => ?_))
  refine Ev.at (pc' := 6) rfl (Ev.cong (st' := []) ?_ rfl rfl)
  refine ev_aload_n (k0 := 0) rfl d_Script_closeRepeat_6 ?_
  refine cw_bipush 59 d_Script_closeRepeat_7 rfl ?_
  obtain ⟨r2, hr2, h⟩ := bind_some9 h
  refine cv_U (d := d + 2) (mc1 := 0) (ms1 := 0) (mc := 0) (ms := 0) [.inl (.int 59)] hG v_6 rfl lk_Script_87_6 (w_Reader_takeSign_6 (d + 0) hG hr2) rfl rfl d_Script_closeRepeat_9 (aft_rw (fun G hG => ?_))
  refine Ev.at (pc' := 12) rfl (Ev.cong (st' := []) ?_ rfl rfl)
  refine ev_aload_n (k0 := 0) rfl d_Script_closeRepeat_12 ?_
  refine cv_get9 (.inl (.int (r2 6 0 10))) hG v_6 fg_Script_28_6 rfl rfl d_Script_closeRepeat_13 ?_
  refine ev_if_le (tgt := 62) (by decide) d_Script_closeRepeat_16 (fun c => ?_) (fun c => ?_)
  · rw [if_pos c] at h
    have hP := kE _ (Option.some.inj h).symm
    exact ev_return (st := []) rfl d_Script_closeRepeat_62 (by rw [hP]; exact ⟨rfl, hG, rfl⟩)
  · rw [if_neg c] at h
    refine ev_aload_n (k0 := 0) rfl d_Script_closeRepeat_19 ?_
    refine ev_dup rfl d_Script_closeRepeat_20 ?_
    refine cv_get9 (.inl (.int (r2 6 0 10))) hG v_6 fg_Script_28_6 rfl rfl d_Script_closeRepeat_21 ?_
    refine cw_iconst 1 d_Script_closeRepeat_24 rfl ?_
    refine ev_isub d_Script_closeRepeat_25 ?_
    obtain ⟨μ3, e_μ3, h⟩ := nm_some h
    refine cv_put (.inl (.int ((r2 6 0 10) - 1))) ((r2 6 0 10) - 1) hG okC v_6 fl_Script_28_6 rfl rfl okv_int d_Script_closeRepeat_26 ?_
    intro G hG; rw [← e_μ3] at hG
    refine ev_aload_n (k0 := 0) rfl d_Script_closeRepeat_29 ?_
    refine cv_get9 (.inr (0, off 22 0)) hG v_6 fg_Script_24_6 rfl rfl d_Script_closeRepeat_30 ?_
    refine ev_aload_n (k0 := 0) rfl d_Script_closeRepeat_33 ?_
    refine cv_get9 (.inl (.int (μ3 6 0 10))) hG v_6 fg_Script_28_6 rfl rfl d_Script_closeRepeat_34 ?_
    obtain ⟨b4, h⟩ := chk_some h
    refine cv_iald hG v_22 rfl rfl b4 rfl d_Script_closeRepeat_37 ?_
    refine Ev.at (pc' := 38) rfl ?_
    obtain ⟨v5, e_v5, h⟩ := nm_some h
    refine cw_istoreN_n 1 v5 e_v5 [some (.inr (0, off 6 0)), some (.inl (.int v5))] d_Script_closeRepeat_38 rfl rfl rfl ?_
    refine ev_aload_n (k0 := 0) rfl d_Script_closeRepeat_39 ?_
    refine cw_iconst 5 d_Script_closeRepeat_40 rfl ?_
    obtain ⟨r6, hr6, h⟩ := bind_some9 h
    refine cv_V (d := d + 2) (mc1 := 0) (ms1 := 0) (mc := 0) (ms := 0) [.inl (.int 5)] hG v_6 rfl lk_Script_102 (w_Script_addStep (d + 2) hG hr6) rfl rfl d_Script_closeRepeat_41 (aft_rw (fun G hG => ?_))
    obtain ⟨b7, h⟩ := chk_some h
    refine Ev.at (pc' := 44) rfl (Ev.cong (st' := [.inr (0, off 10 r6.1)]) ?_ rfl rfl)
    refine ev_iload_n (k0 := 1) rfl d_Script_closeRepeat_44 ?_
    obtain ⟨μ8, e_μ8, h⟩ := nm_some h
    refine cv_put (.inl (.int v5)) v5 hG okC (show vc 10 _ from dlt9 b7) fl_Script_160_10 rfl rfl okv_int d_Script_closeRepeat_45 ?_
    intro G hG; rw [← e_μ8] at hG
    refine ev_aload_n (k0 := 0) rfl d_Script_closeRepeat_48 ?_
    refine ev_iload_n (k0 := 1) rfl d_Script_closeRepeat_49 ?_
    obtain ⟨r9, hr9, h⟩ := bind_some9 h
    refine cv_V (d := d + 2) (mc1 := 0) (ms1 := 0) (mc := 0) (ms := 0) [.inl (.int v5)] hG v_6 rfl lk_Script_163 (w_Script_stepAt (d + 2) hG hr9) rfl rfl d_Script_closeRepeat_50 (aft_ro ?_)
    obtain ⟨b10, h⟩ := chk_some h
    refine Ev.at (pc' := 53) rfl (Ev.cong (st' := [.inr (0, off 10 r9)]) ?_ rfl rfl)
    refine ev_aload_n (k0 := 0) rfl d_Script_closeRepeat_53 ?_
    refine cv_get9 (.inl (.int (μ8 6 0 7))) hG v_6 fg_Script_17_6 rfl rfl d_Script_closeRepeat_54 ?_
    refine cw_iconst 1 d_Script_closeRepeat_57 rfl ?_
    refine ev_isub d_Script_closeRepeat_58 ?_
    obtain ⟨μ11, e_μ11, h⟩ := nm_some h
    refine cv_put (.inl (.int ((μ8 6 0 7) - 1))) ((μ8 6 0 7) - 1) hG okC (show vc 10 _ from dlt9 b10) fl_Script_160_10 rfl rfl okv_int d_Script_closeRepeat_59 ?_
    intro G hG; rw [← e_μ11] at hG
    have hP := kE _ (Option.some.inj h).symm
    exact ev_return (st := []) rfl d_Script_closeRepeat_62 (by rw [hP]; exact ⟨rfl, hG, rfl⟩)

/-- ProphecyShop$Script.addCommand -/
def f_Script_addCommand (w1 : Nat) (x2 : Int32) (μ : Mem) : Option (Nat × Mem) :=
  ((f_Reader_takeCounted 6 w1 (μ 6 0 8) 30 μ)).bind (fun r1 => nm (st3 r1 6 0 8 ((r1 6 0 8) + 1)) (fun μ2 => ((f_Script_addStep x2 μ2)).bind (fun r3 => chk (decide (r3.1 < 60)) (some ((r3.1, r3.2))))))
set_option maxRecDepth 100000 in
set_option maxHeartbeats 4000000 in
theorem w_Script_addCommand {g : GL} {F G : RG} {nx : Nat} (d : Nat) {w1 : Nat} {x2 : Int32} {μ : Mem} (hw1 : w1 < 40) (hSG : SG g) {o : Nat × Mem} (hG : LM vc 0 535 μ F G) (h : f_Script_addCommand w1 x2 μ = some o) : Mt g (d + 8) m_Script_addCommand [.inr (0, off 6 0), .inr (1, w1), .inl (.int x2)] (G, nx) 0 0 (pRW vc 0 535 ((rR 10) o.1) o.2 F nx) := by
  unfold f_Script_addCommand at h
  have kE : ∀ v, o = v → pRW vc 0 535 ((rR 10) o.1) o.2 F nx = pRW vc 0 535 ((rR 10) v.1) v.2 F nx := fun v e => by rw [e]
  refine Mt.of9 [some (.inr (0, off 6 0)), some (.inr (1, w1)), some (.inl (.int x2))] (by decide +kernel) rfl rfl rfl rfl ?_
  refine ev_aload_n (k0 := 0) rfl d_Script_addCommand_0 ?_
  refine ev_aload_n (k0 := 1) rfl d_Script_addCommand_1 ?_
  refine ev_aload_n (k0 := 0) rfl d_Script_addCommand_2 ?_
  refine cv_get9 (.inl (.int (μ 6 0 8))) hG v_6 fg_Script_21_6 rfl rfl d_Script_addCommand_3 ?_
  refine cw_bipush 30 d_Script_addCommand_6 rfl ?_
  obtain ⟨r1, hr1, h⟩ := bind_some9 h
  refine cv_U (d := d + 7) (mc1 := 0) (ms1 := 0) (mc := 0) (ms := 0) [.inr (1, w1), .inl (.int (μ 6 0 8)), .inl (.int 30)] hG v_6 rfl lk_Script_98_6 (w_Reader_takeCounted_6 (d + 0) hw1 hSG hG hr1) rfl rfl d_Script_addCommand_8 (aft_rw (fun G hG => ?_))
  refine Ev.at (pc' := 11) rfl (Ev.cong (st' := []) ?_ rfl rfl)
  refine ev_aload_n (k0 := 0) rfl d_Script_addCommand_11 ?_
  refine ev_dup rfl d_Script_addCommand_12 ?_
  refine cv_get9 (.inl (.int (r1 6 0 8))) hG v_6 fg_Script_21_6 rfl rfl d_Script_addCommand_13 ?_
  refine cw_iconst 1 d_Script_addCommand_16 rfl ?_
  refine ev_iadd d_Script_addCommand_17 ?_
  obtain ⟨μ2, e_μ2, h⟩ := nm_some h
  refine cv_put (.inl (.int ((r1 6 0 8) + 1))) ((r1 6 0 8) + 1) hG okC v_6 fl_Script_21_6 rfl rfl okv_int d_Script_addCommand_18 ?_
  intro G hG; rw [← e_μ2] at hG
  refine ev_aload_n (k0 := 0) rfl d_Script_addCommand_21 ?_
  refine ev_iload_n (k0 := 2) rfl d_Script_addCommand_22 ?_
  obtain ⟨r3, hr3, h⟩ := bind_some9 h
  refine cv_V (d := d + 7) (mc1 := 0) (ms1 := 0) (mc := 0) (ms := 0) [.inl (.int x2)] hG v_6 rfl lk_Script_102 (w_Script_addStep (d + 7) hG hr3) rfl rfl d_Script_addCommand_23 (aft_rw (fun G hG => ?_))
  obtain ⟨b4, h⟩ := chk_some h
  refine Ev.at (pc' := 26) rfl (Ev.cong (st' := [.inr (0, off 10 r3.1)]) ?_ rfl rfl)
  have hP := kE _ (Option.some.inj h).symm
  exact ev_areturn (st := []) rfl (Or.inl ⟨_, rfl⟩) d_Script_addCommand_26 (by rw [hP]; exact ⟨rfl, hG, rfl⟩)

/-- ProphecyShop$Reader.takeName -/
def f_Reader_takeName (K : Nat) (j1 : Nat) (μ : Mem) : Option (Int32 × Mem) :=
  ((f_Reader_codeOfName K μ)).bind (fun r1 => ((f_Names_find j1 r1.1 r1.2)).bind (fun r2 => ((if r2 = ((-1)) then (((f_Reader_fail K 3 r1.2)).bind (fun r5 => some (r5))) else (some (r1.2)) : Option (Mem))).bind (fun q3 => if (q3 K 0 4) = 0 then (((f_Reader_next K q3)).bind (fun r4 => some ((r2, r4)))) else (some ((r2, q3))))))
set_option maxRecDepth 100000 in
set_option maxHeartbeats 4000000 in
theorem w_Reader_takeName_8 {g : GL} {F G : RG} {nx : Nat} (d : Nat) {j1 : Nat} {μ : Mem} (hv1 : vc 3 j1)  {o : Int32 × Mem} (hG : LM vc 0 535 μ F G) (h : f_Reader_takeName 8 j1 μ = some o) : Mt g (d + 3) m_Reader_takeName [.inr (0, off 8 0), .inr (0, off 3 j1)] (G, nx) 0 0 (pRW vc 0 535 (rI o.1) o.2 F nx) := by
  unfold f_Reader_takeName at h
  have kE : ∀ v, o = v → pRW vc 0 535 (rI o.1) o.2 F nx = pRW vc 0 535 (rI v.1) v.2 F nx := fun v e => by rw [e]
  refine Mt.of9 [some (.inr (0, off 8 0)), some (.inr (0, off 3 j1)), none] (by decide +kernel) rfl rfl rfl rfl ?_
  refine ev_aload_n (k0 := 1) rfl d_Reader_takeName_0 ?_
  refine ev_aload_n (k0 := 0) rfl d_Reader_takeName_1 ?_
  obtain ⟨r1, hr1, h⟩ := bind_some9 h
  refine cv_U (d := d + 2) (mc1 := 0) (ms1 := 0) (mc := 0) (ms := 0) [] hG v_8 rfl lk_Reader_83_8 (w_Reader_codeOfName_8 (d + 0) hG hr1) rfl rfl d_Reader_takeName_2 (aft_rw (fun G hG => ?_))
  refine Ev.at (pc' := 5) rfl (Ev.cong (st' := [.inl (.int r1.1), .inr (0, off 3 j1)]) ?_ rfl rfl)
  obtain ⟨r2, hr2, h⟩ := bind_some9 h
  refine cv_V (d := d + 2) (mc1 := 0) (ms1 := 0) (mc := 0) (ms := 0) [.inl (.int r1.1)] hG hv1 rfl lk_Reader_86 (w_Names_find (d + 2) hv1 hG hr2) rfl rfl d_Reader_takeName_5 (aft_ro ?_)
  refine Ev.at (pc' := 8) rfl (Ev.cong (st' := [.inl (.int r2)]) ?_ rfl rfl)
  refine cw_istoreN_n 2 r2 rfl [some (.inr (0, off 8 0)), some (.inr (0, off 3 j1)), some (.inl (.int r2))] d_Reader_takeName_8 rfl rfl rfl ?_
  refine ev_iload_n (k0 := 2) rfl d_Reader_takeName_9 ?_
  refine cw_iconst (-1) d_Reader_takeName_10 rfl ?_
  obtain ⟨q3, hj, h⟩ := bind_some9 h
  have K_q3 : ∀ G, LM vc 0 535 q3 F G → Ev g (d + 3) m_Reader_takeName 19 [some (.inr (0, off 8 0)), none, some (.inl (.int r2))] [] (G, nx) 0 0 (pRW vc 0 535 (rI o.1) o.2 F nx) := by
    intro G hG
    refine ev_aload_n (k0 := 0) rfl d_Reader_takeName_19 ?_
    refine cv_get9 (.inl (.int (q3 8 0 4))) hG v_8 fg_Reader_21_8 rfl rfl d_Reader_takeName_20 ?_
    refine ev_if_ne (tgt := 30) (by decide) d_Reader_takeName_23 (fun c => ?_) (fun c => ?_)
    · rw [if_neg c] at h
      refine ev_iload_n (k0 := 2) rfl d_Reader_takeName_30 ?_
      have hP := kE _ (Option.some.inj h).symm
      exact ev_ireturn (st := []) rfl rfl d_Reader_takeName_31 (by rw [hP]; exact ⟨rfl, hG, rfl⟩)
    · rw [if_pos c] at h
      refine ev_aload_n (k0 := 0) rfl d_Reader_takeName_26 ?_
      obtain ⟨r4, hr4, h⟩ := bind_some9 h
      refine cv_U (d := d + 2) (mc1 := 0) (ms1 := 0) (mc := 0) (ms := 0) [] hG v_8 rfl lk_Reader_31_8 (w_Reader_next_8 (d + 1) hG hr4) rfl rfl d_Reader_takeName_27 (aft_rw (fun G hG => ?_))
      refine Ev.at (pc' := 30) rfl (Ev.cong (st' := []) ?_ rfl rfl)
      refine ev_iload_n (k0 := 2) rfl d_Reader_takeName_30 ?_
      have hP := kE _ (Option.some.inj h).symm
      exact ev_ireturn (st := []) rfl rfl d_Reader_takeName_31 (by rw [hP]; exact ⟨rfl, hG, rfl⟩)
  clear h
  have h := hj
  refine ev_icmp_ne (tgt := 19) (by decide) d_Reader_takeName_11 (fun c => ?_) (fun c => ?_)
  · rw [if_neg c] at h
    obtain rfl := Option.some.inj h
    exact Ev.sub (.s (.n (.s LSb.z))) (K_q3 G hG)
  · rw [if_pos c] at h
    refine ev_aload_n (k0 := 0) rfl d_Reader_takeName_14 ?_
    refine cw_iconst 3 d_Reader_takeName_15 rfl ?_
    obtain ⟨r5, hr5, h⟩ := bind_some9 h
    refine cv_U (d := d + 2) (mc1 := 0) (ms1 := 0) (mc := 0) (ms := 0) [.inl (.int 3)] hG v_8 rfl lk_Reader_64_8 (w_Reader_fail_8 (d + 2) hG hr5) rfl rfl d_Reader_takeName_16 (aft_rw (fun G hG => ?_))
    refine Ev.at (pc' := 19) rfl (Ev.cong (st' := []) ?_ rfl rfl)
    obtain rfl := Option.some.inj h
    exact Ev.sub (.s (.n (.s LSb.z))) (K_q3 G hG)
set_option maxRecDepth 100000 in
set_option maxHeartbeats 4000000 in
theorem w_Reader_takeName_6 {g : GL} {F G : RG} {nx : Nat} (d : Nat) {j1 : Nat} {μ : Mem} (hv1 : vc 3 j1)  {o : Int32 × Mem} (hG : LM vc 0 535 μ F G) (h : f_Reader_takeName 6 j1 μ = some o) : Mt g (d + 3) m_Reader_takeName [.inr (0, off 6 0), .inr (0, off 3 j1)] (G, nx) 0 0 (pRW vc 0 535 (rI o.1) o.2 F nx) := by
  unfold f_Reader_takeName at h
  have kE : ∀ v, o = v → pRW vc 0 535 (rI o.1) o.2 F nx = pRW vc 0 535 (rI v.1) v.2 F nx := fun v e => by rw [e]
  refine Mt.of9 [some (.inr (0, off 6 0)), some (.inr (0, off 3 j1)), none] (by decide +kernel) rfl rfl rfl rfl ?_
  refine ev_aload_n (k0 := 1) rfl d_Reader_takeName_0 ?_
  refine ev_aload_n (k0 := 0) rfl d_Reader_takeName_1 ?_
  obtain ⟨r1, hr1, h⟩ := bind_some9 h
  refine cv_U (d := d + 2) (mc1 := 0) (ms1 := 0) (mc := 0) (ms := 0) [] hG v_6 rfl lk_Reader_83_6 (w_Reader_codeOfName_6 (d + 0) hG hr1) rfl rfl d_Reader_takeName_2 (aft_rw (fun G hG => ?_))
  refine Ev.at (pc' := 5) rfl (Ev.cong (st' := [.inl (.int r1.1), .inr (0, off 3 j1)]) ?_ rfl rfl)
  obtain ⟨r2, hr2, h⟩ := bind_some9 h
  refine cv_V (d := d + 2) (mc1 := 0) (ms1 := 0) (mc := 0) (ms := 0) [.inl (.int r1.1)] hG hv1 rfl lk_Reader_86 (w_Names_find (d + 2) hv1 hG hr2) rfl rfl d_Reader_takeName_5 (aft_ro ?_)
  refine Ev.at (pc' := 8) rfl (Ev.cong (st' := [.inl (.int r2)]) ?_ rfl rfl)
  refine cw_istoreN_n 2 r2 rfl [some (.inr (0, off 6 0)), some (.inr (0, off 3 j1)), some (.inl (.int r2))] d_Reader_takeName_8 rfl rfl rfl ?_
  refine ev_iload_n (k0 := 2) rfl d_Reader_takeName_9 ?_
  refine cw_iconst (-1) d_Reader_takeName_10 rfl ?_
  obtain ⟨q3, hj, h⟩ := bind_some9 h
  have K_q3 : ∀ G, LM vc 0 535 q3 F G → Ev g (d + 3) m_Reader_takeName 19 [some (.inr (0, off 6 0)), none, some (.inl (.int r2))] [] (G, nx) 0 0 (pRW vc 0 535 (rI o.1) o.2 F nx) := by
    intro G hG
    refine ev_aload_n (k0 := 0) rfl d_Reader_takeName_19 ?_
    refine cv_get9 (.inl (.int (q3 6 0 4))) hG v_6 fg_Reader_21_6 rfl rfl d_Reader_takeName_20 ?_
    refine ev_if_ne (tgt := 30) (by decide) d_Reader_takeName_23 (fun c => ?_) (fun c => ?_)
    · rw [if_neg c] at h
      refine ev_iload_n (k0 := 2) rfl d_Reader_takeName_30 ?_
      have hP := kE _ (Option.some.inj h).symm
      exact ev_ireturn (st := []) rfl rfl d_Reader_takeName_31 (by rw [hP]; exact ⟨rfl, hG, rfl⟩)
    · rw [if_pos c] at h
      refine ev_aload_n (k0 := 0) rfl d_Reader_takeName_26 ?_
      obtain ⟨r4, hr4, h⟩ := bind_some9 h
      refine cv_U (d := d + 2) (mc1 := 0) (ms1 := 0) (mc := 0) (ms := 0) [] hG v_6 rfl lk_Reader_31_6 (w_Reader_next_6 (d + 1) hG hr4) rfl rfl d_Reader_takeName_27 (aft_rw (fun G hG => ?_))
      refine Ev.at (pc' := 30) rfl (Ev.cong (st' := []) ?_ rfl rfl)
      refine ev_iload_n (k0 := 2) rfl d_Reader_takeName_30 ?_
      have hP := kE _ (Option.some.inj h).symm
      exact ev_ireturn (st := []) rfl rfl d_Reader_takeName_31 (by rw [hP]; exact ⟨rfl, hG, rfl⟩)
  clear h
  have h := hj
  refine ev_icmp_ne (tgt := 19) (by decide) d_Reader_takeName_11 (fun c => ?_) (fun c => ?_)
  · rw [if_neg c] at h
    obtain rfl := Option.some.inj h
    exact Ev.sub (.s (.n (.s LSb.z))) (K_q3 G hG)
  · rw [if_pos c] at h
    refine ev_aload_n (k0 := 0) rfl d_Reader_takeName_14 ?_
    refine cw_iconst 3 d_Reader_takeName_15 rfl ?_
    obtain ⟨r5, hr5, h⟩ := bind_some9 h
    refine cv_U (d := d + 2) (mc1 := 0) (ms1 := 0) (mc := 0) (ms := 0) [.inl (.int 3)] hG v_6 rfl lk_Reader_64_6 (w_Reader_fail_6 (d + 2) hG hr5) rfl rfl d_Reader_takeName_16 (aft_rw (fun G hG => ?_))
    refine Ev.at (pc' := 19) rfl (Ev.cong (st' := []) ?_ rfl rfl)
    obtain rfl := Option.some.inj h
    exact Ev.sub (.s (.n (.s LSb.z))) (K_q3 G hG)

/-- ProphecyShop$Script.takeProphecyKind -/
def f_Script_takeProphecyKind  (μ : Mem) : Option (Int32 × Mem) :=
  ((f_Reader_sees 6 8 μ)).bind (fun r1 => if r1 = 0 then (((f_Reader_sees 6 9 μ)).bind (fun r2 => if r2 = 0 then (((f_Reader_takeWord 6 10 μ)).bind (fun r3 => some ((0, r3)))) else (((f_Reader_takeWord 6 9 μ)).bind (fun r4 => some ((2, r4)))))) else (((f_Reader_takeWord 6 8 μ)).bind (fun r5 => some ((1, r5)))))
set_option maxRecDepth 100000 in
set_option maxHeartbeats 4000000 in
theorem w_Script_takeProphecyKind {g : GL} {F G : RG} {nx : Nat} (d : Nat)  {μ : Mem}  (hSG : SG g) {o : Int32 × Mem} (hG : LM vc 0 535 μ F G) (h : f_Script_takeProphecyKind  μ = some o) : Mt g (d + 8) m_Script_takeProphecyKind [.inr (0, off 6 0)] (G, nx) 0 0 (pRW vc 0 535 (rI o.1) o.2 F nx) := by
  unfold f_Script_takeProphecyKind at h
  have kE : ∀ v, o = v → pRW vc 0 535 (rI o.1) o.2 F nx = pRW vc 0 535 (rI v.1) v.2 F nx := fun v e => by rw [e]
  refine Mt.of9 [some (.inr (0, off 6 0))] (by decide +kernel) rfl rfl rfl rfl ?_
  refine ev_aload_n (k0 := 0) rfl d_Script_takeProphecyKind_0 ?_
  refine ev_ldcS st_8 d_Script_takeProphecyKind_1 ?_
  obtain ⟨r1, hr1, h⟩ := bind_some9 h
  refine cv_U (d := d + 7) (mc1 := 0) (ms1 := 0) (mc := 0) (ms := 0) [.inr (1, 8)] hG v_6 rfl lk_Script_61_6 (w_Reader_sees_6 (d + 1) (by decide) hSG hG hr1) rfl rfl d_Script_takeProphecyKind_3 (aft_ro ?_)
  refine Ev.at (pc' := 6) rfl (Ev.cong (st' := [.inl (.int r1)]) ?_ rfl rfl)
  refine ev_if_eq (tgt := 17) (by decide) d_Script_takeProphecyKind_6 (fun c => ?_) (fun c => ?_)
  · rw [if_pos c] at h
    refine ev_aload_n (k0 := 0) rfl d_Script_takeProphecyKind_17 ?_
    refine ev_ldcS st_9 d_Script_takeProphecyKind_18 ?_
    obtain ⟨r2, hr2, h⟩ := bind_some9 h
    refine cv_U (d := d + 7) (mc1 := 0) (ms1 := 0) (mc := 0) (ms := 0) [.inr (1, 9)] hG v_6 rfl lk_Script_61_6 (w_Reader_sees_6 (d + 1) (by decide) hSG hG hr2) rfl rfl d_Script_takeProphecyKind_20 (aft_ro ?_)
    refine Ev.at (pc' := 23) rfl (Ev.cong (st' := [.inl (.int r2)]) ?_ rfl rfl)
    refine ev_if_eq (tgt := 34) (by decide) d_Script_takeProphecyKind_23 (fun c => ?_) (fun c => ?_)
    · rw [if_pos c] at h
      refine ev_aload_n (k0 := 0) rfl d_Script_takeProphecyKind_34 ?_
      refine ev_ldcS st_10 d_Script_takeProphecyKind_35 ?_
      obtain ⟨r3, hr3, h⟩ := bind_some9 h
      refine cv_U (d := d + 7) (mc1 := 0) (ms1 := 0) (mc := 0) (ms := 0) [.inr (1, 10)] hG v_6 rfl lk_Script_152_6 (w_Reader_takeWord_6 (d + 0) (by decide) hSG hG hr3) rfl rfl d_Script_takeProphecyKind_37 (aft_rw (fun G hG => ?_))
      refine Ev.at (pc' := 40) rfl (Ev.cong (st' := []) ?_ rfl rfl)
      refine cw_iconst 0 d_Script_takeProphecyKind_40 rfl ?_
      have hP := kE _ (Option.some.inj h).symm
      exact ev_ireturn (st := []) rfl rfl d_Script_takeProphecyKind_41 (by rw [hP]; exact ⟨rfl, hG, rfl⟩)
    · rw [if_neg c] at h
      refine ev_aload_n (k0 := 0) rfl d_Script_takeProphecyKind_26 ?_
      refine ev_ldcS st_9 d_Script_takeProphecyKind_27 ?_
      obtain ⟨r4, hr4, h⟩ := bind_some9 h
      refine cv_U (d := d + 7) (mc1 := 0) (ms1 := 0) (mc := 0) (ms := 0) [.inr (1, 9)] hG v_6 rfl lk_Script_152_6 (w_Reader_takeWord_6 (d + 0) (by decide) hSG hG hr4) rfl rfl d_Script_takeProphecyKind_29 (aft_rw (fun G hG => ?_))
      refine Ev.at (pc' := 32) rfl (Ev.cong (st' := []) ?_ rfl rfl)
      refine cw_iconst 2 d_Script_takeProphecyKind_32 rfl ?_
      have hP := kE _ (Option.some.inj h).symm
      exact ev_ireturn (st := []) rfl rfl d_Script_takeProphecyKind_33 (by rw [hP]; exact ⟨rfl, hG, rfl⟩)
  · rw [if_neg c] at h
    refine ev_aload_n (k0 := 0) rfl d_Script_takeProphecyKind_9 ?_
    refine ev_ldcS st_8 d_Script_takeProphecyKind_10 ?_
    obtain ⟨r5, hr5, h⟩ := bind_some9 h
    refine cv_U (d := d + 7) (mc1 := 0) (ms1 := 0) (mc := 0) (ms := 0) [.inr (1, 8)] hG v_6 rfl lk_Script_152_6 (w_Reader_takeWord_6 (d + 0) (by decide) hSG hG hr5) rfl rfl d_Script_takeProphecyKind_12 (aft_rw (fun G hG => ?_))
    refine Ev.at (pc' := 15) rfl (Ev.cong (st' := []) ?_ rfl rfl)
    refine cw_iconst 1 d_Script_takeProphecyKind_15 rfl ?_
    have hP := kE _ (Option.some.inj h).symm
    exact ev_ireturn (st := []) rfl rfl d_Script_takeProphecyKind_16 (by rw [hP]; exact ⟨rfl, hG, rfl⟩)

/-- ProphecyShop$Script.readSell -/
def f_Script_readSell (j1 : Nat) (j2 : Nat) (μ : Mem) : Option (Mem) :=
  ((f_Reader_takeName 6 (3 * j2 + 2) μ)).bind (fun r1 => nm (st3 r1.2 10 j1 1 r1.1) (fun μ2 => ((f_Script_takeProphecyKind μ2)).bind (fun r3 => nm (st3 r3.2 10 j1 2 r3.1) (fun μ4 => ((f_Reader_takeName 6 (3 * j2) μ4)).bind (fun r5 => nm (st3 r5.2 10 j1 3 r5.1) (fun μ6 => ((if (μ6 10 j1 2) = 1 then (some (((-1), μ6))) else (((f_Reader_takeName 6 (3 * j2 + 1) μ6)).bind (fun r16 => some ((r16.1, r16.2)))) : Option (Int32 × Mem))).bind (fun q7 => nm (st3 q7.2 10 j1 4 q7.1) (fun μ8 => ((f_Reader_takeNumber 6 0 99 μ8)).bind (fun r9 => nm (st3 r9.2 10 j1 5 r9.1) (fun μ10 => ((f_Reader_takeNumber 6 1 60 μ10)).bind (fun r11 => nm (st3 r11.2 10 j1 6 r11.1) (fun μ12 => ((f_Reader_takeNumber 6 1 999 μ12)).bind (fun r13 => nm (st3 r13.2 10 j1 7 r13.1) (fun μ14 => ((f_Reader_takeSign 6 59 μ14)).bind (fun r15 => some r15)))))))))))))))
set_option maxRecDepth 100000 in
set_option maxHeartbeats 4000000 in
theorem w_Script_readSell {g : GL} {F G : RG} {nx : Nat} (d : Nat) {j1 : Nat} {j2 : Nat} {μ : Mem} (hv1 : vc 10 j1) (hv2 : vc 7 j2) (hSG : SG g) {o : Mem} (hG : LM vc 0 535 μ F G) (h : f_Script_readSell j1 j2 μ = some o) : Mt g (d + 9) m_Script_readSell [.inr (0, off 6 0), .inr (0, off 10 j1), .inr (0, off 7 j2)] (G, nx) 0 0 (pRW vc 0 535 rV o F nx) := by
  unfold f_Script_readSell at h
  have kE : ∀ v, o = v → pRW vc 0 535 rV o F nx = pRW vc 0 535 rV v F nx := fun v e => by rw [e]
  refine Mt.of9 [some (.inr (0, off 6 0)), some (.inr (0, off 10 j1)), some (.inr (0, off 7 j2))] (by decide +kernel) rfl rfl rfl rfl ?_
  refine ev_aload_n (k0 := 1) rfl d_Script_readSell_0 ?_
  refine ev_aload_n (k0 := 0) rfl d_Script_readSell_1 ?_
  refine ev_aload_n (k0 := 2) rfl d_Script_readSell_2 ?_
  refine cv_get9 (.inr (0, off 3 (3 * j2 + 2))) hG hv2 fg_Script_109_7 rfl rfl d_Script_readSell_3 ?_
  obtain ⟨r1, hr1, h⟩ := bind_some9 h
  refine cv_U (d := d + 8) (mc1 := 0) (ms1 := 0) (mc := 0) (ms := 0) [.inr (0, off 3 (3 * j2 + 2))] hG v_6 rfl lk_Script_115_6 (w_Reader_takeName_6 (d + 5) (tv_7_7 hv2) hG hr1) rfl rfl d_Script_readSell_6 (aft_rw (fun G hG => ?_))
  refine Ev.at (pc' := 9) rfl (Ev.cong (st' := [.inl (.int r1.1), .inr (0, off 10 j1)]) ?_ rfl rfl)
  obtain ⟨μ2, e_μ2, h⟩ := nm_some h
  refine cv_put (.inl (.int r1.1)) r1.1 hG okC hv1 fl_Script_119_10 rfl rfl okv_int d_Script_readSell_9 ?_
  intro G hG; rw [← e_μ2] at hG
  refine ev_aload_n (k0 := 1) rfl d_Script_readSell_12 ?_
  refine ev_aload_n (k0 := 0) rfl d_Script_readSell_13 ?_
  obtain ⟨r3, hr3, h⟩ := bind_some9 h
  refine cv_V (d := d + 8) (mc1 := 0) (ms1 := 0) (mc := 0) (ms := 0) [] hG v_6 rfl lk_Script_122 (w_Script_takeProphecyKind (d + 0) hSG hG hr3) rfl rfl d_Script_readSell_14 (aft_rw (fun G hG => ?_))
  refine Ev.at (pc' := 17) rfl (Ev.cong (st' := [.inl (.int r3.1), .inr (0, off 10 j1)]) ?_ rfl rfl)
  obtain ⟨μ4, e_μ4, h⟩ := nm_some h
  refine cv_put (.inl (.int r3.1)) r3.1 hG okC hv1 fl_Script_126_10 rfl rfl okv_int d_Script_readSell_17 ?_
  intro G hG; rw [← e_μ4] at hG
  refine ev_aload_n (k0 := 1) rfl d_Script_readSell_20 ?_
  refine ev_aload_n (k0 := 0) rfl d_Script_readSell_21 ?_
  refine ev_aload_n (k0 := 2) rfl d_Script_readSell_22 ?_
  refine cv_get9 (.inr (0, off 3 (3 * j2))) hG hv2 fg_Script_129_7 rfl rfl d_Script_readSell_23 ?_
  obtain ⟨r5, hr5, h⟩ := bind_some9 h
  refine cv_U (d := d + 8) (mc1 := 0) (ms1 := 0) (mc := 0) (ms := 0) [.inr (0, off 3 (3 * j2))] hG v_6 rfl lk_Script_115_6 (w_Reader_takeName_6 (d + 5) (tv_7_5 hv2) hG hr5) rfl rfl d_Script_readSell_26 (aft_rw (fun G hG => ?_))
  refine Ev.at (pc' := 29) rfl (Ev.cong (st' := [.inl (.int r5.1), .inr (0, off 10 j1)]) ?_ rfl rfl)
  obtain ⟨μ6, e_μ6, h⟩ := nm_some h
  refine cv_put (.inl (.int r5.1)) r5.1 hG okC hv1 fl_Script_132_10 rfl rfl okv_int d_Script_readSell_29 ?_
  intro G hG; rw [← e_μ6] at hG
  refine ev_aload_n (k0 := 1) rfl d_Script_readSell_32 ?_
  refine ev_aload_n (k0 := 1) rfl d_Script_readSell_33 ?_
  refine cv_get9 (.inl (.int (μ6 10 j1 2))) hG hv1 fg_Script_126_10 rfl rfl d_Script_readSell_34 ?_
  refine cw_iconst 1 d_Script_readSell_37 rfl ?_
  obtain ⟨q7, hj, h⟩ := bind_some9 h
  have K_q7 : ∀ G, LM vc 0 535 q7.2 F G → Ev g (d + 9) m_Script_readSell 53 [some (.inr (0, off 6 0)), some (.inr (0, off 10 j1)), none] [.inl (.int q7.1), .inr (0, off 10 j1)] (G, nx) 0 0 (pRW vc 0 535 rV o F nx) := by
    intro G hG
    obtain ⟨μ8, e_μ8, h⟩ := nm_some h
    refine cv_put (.inl (.int q7.1)) q7.1 hG okC hv1 fl_Script_138_10 rfl rfl okv_int d_Script_readSell_53 ?_
    intro G hG; rw [← e_μ8] at hG
    refine ev_aload_n (k0 := 1) rfl d_Script_readSell_56 ?_
    refine ev_aload_n (k0 := 0) rfl d_Script_readSell_57 ?_
    refine cw_iconst 0 d_Script_readSell_58 rfl ?_
    refine cw_bipush 99 d_Script_readSell_59 rfl ?_
    obtain ⟨r9, hr9, h⟩ := bind_some9 h
    refine cv_U (d := d + 8) (mc1 := 0) (ms1 := 0) (mc := 0) (ms := 0) [.inl (.int 0), .inl (.int 99)] hG v_6 rfl lk_Script_80_6 (w_Reader_takeNumber_6 (d + 6) hG hr9) rfl rfl d_Script_readSell_61 (aft_rw (fun G hG => ?_))
    refine Ev.at (pc' := 64) rfl (Ev.cong (st' := [.inl (.int r9.1), .inr (0, off 10 j1)]) ?_ rfl rfl)
    obtain ⟨μ10, e_μ10, h⟩ := nm_some h
    refine cv_put (.inl (.int r9.1)) r9.1 hG okC hv1 fl_Script_141_10 rfl rfl okv_int d_Script_readSell_64 ?_
    intro G hG; rw [← e_μ10] at hG
    refine ev_aload_n (k0 := 1) rfl d_Script_readSell_67 ?_
    refine ev_aload_n (k0 := 0) rfl d_Script_readSell_68 ?_
    refine cw_iconst 1 d_Script_readSell_69 rfl ?_
    refine cw_bipush 60 d_Script_readSell_70 rfl ?_
    obtain ⟨r11, hr11, h⟩ := bind_some9 h
    refine cv_U (d := d + 8) (mc1 := 0) (ms1 := 0) (mc := 0) (ms := 0) [.inl (.int 1), .inl (.int 60)] hG v_6 rfl lk_Script_80_6 (w_Reader_takeNumber_6 (d + 6) hG hr11) rfl rfl d_Script_readSell_72 (aft_rw (fun G hG => ?_))
    refine Ev.at (pc' := 75) rfl (Ev.cong (st' := [.inl (.int r11.1), .inr (0, off 10 j1)]) ?_ rfl rfl)
    obtain ⟨μ12, e_μ12, h⟩ := nm_some h
    refine cv_put (.inl (.int r11.1)) r11.1 hG okC hv1 fl_Script_144_10 rfl rfl okv_int d_Script_readSell_75 ?_
    intro G hG; rw [← e_μ12] at hG
    refine ev_aload_n (k0 := 1) rfl d_Script_readSell_78 ?_
    refine ev_aload_n (k0 := 0) rfl d_Script_readSell_79 ?_
    refine cw_iconst 1 d_Script_readSell_80 rfl ?_
    refine cw_sipush 999 d_Script_readSell_81 rfl ?_
    obtain ⟨r13, hr13, h⟩ := bind_some9 h
    refine cv_U (d := d + 8) (mc1 := 0) (ms1 := 0) (mc := 0) (ms := 0) [.inl (.int 1), .inl (.int 999)] hG v_6 rfl lk_Script_80_6 (w_Reader_takeNumber_6 (d + 6) hG hr13) rfl rfl d_Script_readSell_84 (aft_rw (fun G hG => ?_))
    refine Ev.at (pc' := 87) rfl (Ev.cong (st' := [.inl (.int r13.1), .inr (0, off 10 j1)]) ?_ rfl rfl)
    obtain ⟨μ14, e_μ14, h⟩ := nm_some h
    refine cv_put (.inl (.int r13.1)) r13.1 hG okC hv1 fl_Script_147_10 rfl rfl okv_int d_Script_readSell_87 ?_
    intro G hG; rw [← e_μ14] at hG
    refine ev_aload_n (k0 := 0) rfl d_Script_readSell_90 ?_
    refine cw_bipush 59 d_Script_readSell_91 rfl ?_
    obtain ⟨r15, hr15, h⟩ := bind_some9 h
    refine cv_U (d := d + 8) (mc1 := 0) (ms1 := 0) (mc := 0) (ms := 0) [.inl (.int 59)] hG v_6 rfl lk_Script_87_6 (w_Reader_takeSign_6 (d + 6) hG hr15) rfl rfl d_Script_readSell_93 (aft_rw (fun G hG => ?_))
    refine Ev.at (pc' := 96) rfl (Ev.cong (st' := []) ?_ rfl rfl)
    have hP := kE _ (Option.some.inj h).symm
    exact ev_return (st := []) rfl d_Script_readSell_96 (by rw [hP]; exact ⟨rfl, hG, rfl⟩)
  clear h
  have h := hj
  refine ev_icmp_ne (tgt := 45) (by decide) d_Script_readSell_38 (fun c => ?_) (fun c => ?_)
  · rw [if_neg c] at h
    refine ev_aload_n (k0 := 0) rfl d_Script_readSell_45 ?_
    refine ev_aload_n (k0 := 2) rfl d_Script_readSell_46 ?_
    refine cv_get9 (.inr (0, off 3 (3 * j2 + 1))) hG hv2 fg_Script_135_7 rfl rfl d_Script_readSell_47 ?_
    obtain ⟨r16, hr16, h⟩ := bind_some9 h
    refine cv_U (d := d + 8) (mc1 := 0) (ms1 := 0) (mc := 0) (ms := 0) [.inr (0, off 3 (3 * j2 + 1))] hG v_6 rfl lk_Script_115_6 (w_Reader_takeName_6 (d + 5) (tv_7_6 hv2) hG hr16) rfl rfl d_Script_readSell_50 (aft_rw (fun G hG => ?_))
    refine Ev.at (pc' := 53) rfl (Ev.cong (st' := [.inl (.int r16.1), .inr (0, off 10 j1)]) ?_ rfl rfl)
    obtain rfl := Option.some.inj h
    exact Ev.sub (.s (.s (.n LSb.z))) (K_q7 G hG)
  · rw [if_pos c] at h
    refine cw_iconst (-1) d_Script_readSell_41 rfl ?_
    refine ev_goto (tgt := 53) (by decide) d_Script_readSell_42 ?_
    obtain rfl := Option.some.inj h
    exact Ev.sub (.s (.s (.n LSb.z))) (K_q7 G hG)

/-- ProphecyShop$Script.readHappen -/
def f_Script_readHappen (j1 : Nat) (j2 : Nat) (μ : Mem) : Option (Mem) :=
  ((f_Reader_takeName 6 (3 * j2) μ)).bind (fun r1 => nm (st3 r1.2 10 j1 3 r1.1) (fun μ2 => ((f_Reader_takeName 6 (3 * j2 + 1) μ2)).bind (fun r3 => nm (st3 r3.2 10 j1 4 r3.1) (fun μ4 => ((f_Reader_takeSign 6 59 μ4)).bind (fun r5 => some r5)))))
set_option maxRecDepth 100000 in
set_option maxHeartbeats 4000000 in
theorem w_Script_readHappen {g : GL} {F G : RG} {nx : Nat} (d : Nat) {j1 : Nat} {j2 : Nat} {μ : Mem} (hv1 : vc 10 j1) (hv2 : vc 7 j2)  {o : Mem} (hG : LM vc 0 535 μ F G) (h : f_Script_readHappen j1 j2 μ = some o) : Mt g (d + 4) m_Script_readHappen [.inr (0, off 6 0), .inr (0, off 10 j1), .inr (0, off 7 j2)] (G, nx) 0 0 (pRW vc 0 535 rV o F nx) := by
  unfold f_Script_readHappen at h
  have kE : ∀ v, o = v → pRW vc 0 535 rV o F nx = pRW vc 0 535 rV v F nx := fun v e => by rw [e]
  refine Mt.of9 [some (.inr (0, off 6 0)), some (.inr (0, off 10 j1)), some (.inr (0, off 7 j2))] (by decide +kernel) rfl rfl rfl rfl ?_
  refine ev_aload_n (k0 := 1) rfl d_Script_readHappen_0 ?_
  refine ev_aload_n (k0 := 0) rfl d_Script_readHappen_1 ?_
  refine ev_aload_n (k0 := 2) rfl d_Script_readHappen_2 ?_
  refine cv_get9 (.inr (0, off 3 (3 * j2))) hG hv2 fg_Script_129_7 rfl rfl d_Script_readHappen_3 ?_
  obtain ⟨r1, hr1, h⟩ := bind_some9 h
  refine cv_U (d := d + 3) (mc1 := 0) (ms1 := 0) (mc := 0) (ms := 0) [.inr (0, off 3 (3 * j2))] hG v_6 rfl lk_Script_115_6 (w_Reader_takeName_6 (d + 0) (tv_7_5 hv2) hG hr1) rfl rfl d_Script_readHappen_6 (aft_rw (fun G hG => ?_))
  refine Ev.at (pc' := 9) rfl (Ev.cong (st' := [.inl (.int r1.1), .inr (0, off 10 j1)]) ?_ rfl rfl)
  obtain ⟨μ2, e_μ2, h⟩ := nm_some h
  refine cv_put (.inl (.int r1.1)) r1.1 hG okC hv1 fl_Script_132_10 rfl rfl okv_int d_Script_readHappen_9 ?_
  intro G hG; rw [← e_μ2] at hG
  refine ev_aload_n (k0 := 1) rfl d_Script_readHappen_12 ?_
  refine ev_aload_n (k0 := 0) rfl d_Script_readHappen_13 ?_
  refine ev_aload_n (k0 := 2) rfl d_Script_readHappen_14 ?_
  refine cv_get9 (.inr (0, off 3 (3 * j2 + 1))) hG hv2 fg_Script_135_7 rfl rfl d_Script_readHappen_15 ?_
  obtain ⟨r3, hr3, h⟩ := bind_some9 h
  refine cv_U (d := d + 3) (mc1 := 0) (ms1 := 0) (mc := 0) (ms := 0) [.inr (0, off 3 (3 * j2 + 1))] hG v_6 rfl lk_Script_115_6 (w_Reader_takeName_6 (d + 0) (tv_7_6 hv2) hG hr3) rfl rfl d_Script_readHappen_18 (aft_rw (fun G hG => ?_))
  refine Ev.at (pc' := 21) rfl (Ev.cong (st' := [.inl (.int r3.1), .inr (0, off 10 j1)]) ?_ rfl rfl)
  obtain ⟨μ4, e_μ4, h⟩ := nm_some h
  refine cv_put (.inl (.int r3.1)) r3.1 hG okC hv1 fl_Script_138_10 rfl rfl okv_int d_Script_readHappen_21 ?_
  intro G hG; rw [← e_μ4] at hG
  refine ev_aload_n (k0 := 0) rfl d_Script_readHappen_24 ?_
  refine cw_bipush 59 d_Script_readHappen_25 rfl ?_
  obtain ⟨r5, hr5, h⟩ := bind_some9 h
  refine cv_U (d := d + 3) (mc1 := 0) (ms1 := 0) (mc := 0) (ms := 0) [.inl (.int 59)] hG v_6 rfl lk_Script_87_6 (w_Reader_takeSign_6 (d + 1) hG hr5) rfl rfl d_Script_readHappen_27 (aft_rw (fun G hG => ?_))
  refine Ev.at (pc' := 30) rfl (Ev.cong (st' := []) ?_ rfl rfl)
  have hP := kE _ (Option.some.inj h).symm
  exact ev_return (st := []) rfl d_Script_readHappen_30 (by rw [hP]; exact ⟨rfl, hG, rfl⟩)

/-- ProphecyShop$Script.openRepeat -/
def f_Script_openRepeat  (μ : Mem) : Option (Mem) :=
  ((f_Reader_seesSign 6 40 μ)).bind (fun r1 => ((if r1 = 0 then (some (μ)) else (if (μ 6 0 10) < 2 then (some (μ)) else (((f_Reader_fail 6 4 μ)).bind (fun r7 => some (r7)))) : Option (Mem))).bind (fun q2 => ((f_Reader_takeSign 6 40 q2)).bind (fun r3 => if (r3 6 0 4) = 0 then (if (2 : Int32) ≤ (r3 6 0 10) then some r3 else (chk (inb (r3 6 0 10) 2) (nm (st3 r3 22 0 (r3 6 0 10).toNatClampNeg ((r3 6 0 7) - 1)) (fun μ5 => nm (st3 μ5 6 0 10 ((μ5 6 0 10) + 1)) (fun μ6 => some μ6))))) else (some r3))))
set_option maxRecDepth 100000 in
set_option maxHeartbeats 4000000 in
theorem w_Script_openRepeat {g : GL} {F G : RG} {nx : Nat} (d : Nat)  {μ : Mem}   {o : Mem} (hG : LM vc 0 535 μ F G) (h : f_Script_openRepeat  μ = some o) : Mt g (d + 3) m_Script_openRepeat [.inr (0, off 6 0)] (G, nx) 0 0 (pRW vc 0 535 rV o F nx) := by
  unfold f_Script_openRepeat at h
  have kE : ∀ v, o = v → pRW vc 0 535 rV o F nx = pRW vc 0 535 rV v F nx := fun v e => by rw [e]
  refine Mt.of9 [some (.inr (0, off 6 0))] (by decide +kernel) rfl rfl rfl rfl ?_
  refine ev_aload_n (k0 := 0) rfl d_Script_openRepeat_0 ?_
  refine cw_bipush 40 d_Script_openRepeat_1 rfl ?_
  obtain ⟨r1, hr1, h⟩ := bind_some9 h
  refine cv_U (d := d + 2) (mc1 := 0) (ms1 := 0) (mc := 0) (ms := 0) [.inl (.int 40)] hG v_6 rfl lk_Script_44_6 (w_Reader_seesSign_6 (d + 2) hG hr1) rfl rfl d_Script_openRepeat_3 (aft_ro ?_)
  refine Ev.at (pc' := 6) rfl (Ev.cong (st' := [.inl (.int r1)]) ?_ rfl rfl)
  obtain ⟨q2, hj, h⟩ := bind_some9 h
  have K_q2 : ∀ G, LM vc 0 535 q2 F G → Ev g (d + 3) m_Script_openRepeat 22 [some (.inr (0, off 6 0))] [] (G, nx) 0 0 (pRW vc 0 535 rV o F nx) := by
    intro G hG
    refine ev_aload_n (k0 := 0) rfl d_Script_openRepeat_22 ?_
    refine cw_bipush 40 d_Script_openRepeat_23 rfl ?_
    obtain ⟨r3, hr3, h⟩ := bind_some9 h
    refine cv_U (d := d + 2) (mc1 := 0) (ms1 := 0) (mc := 0) (ms := 0) [.inl (.int 40)] hG v_6 rfl lk_Script_87_6 (w_Reader_takeSign_6 (d + 0) hG hr3) rfl rfl d_Script_openRepeat_25 (aft_rw (fun G hG => ?_))
    refine Ev.at (pc' := 28) rfl (Ev.cong (st' := []) ?_ rfl rfl)
    refine ev_aload_n (k0 := 0) rfl d_Script_openRepeat_28 ?_
    refine cv_get9 (.inl (.int (r3 6 0 4))) hG v_6 fg_Script_37_6 rfl rfl d_Script_openRepeat_29 ?_
    refine ev_if_ne (tgt := 68) (by decide) d_Script_openRepeat_32 (fun c => ?_) (fun c => ?_)
    · rw [if_neg c] at h
      have hP := kE _ (Option.some.inj h).symm
      exact ev_return (st := []) rfl d_Script_openRepeat_68 (by rw [hP]; exact ⟨rfl, hG, rfl⟩)
    · rw [if_pos c] at h
      refine ev_aload_n (k0 := 0) rfl d_Script_openRepeat_35 ?_
      refine cv_get9 (.inl (.int (r3 6 0 10))) hG v_6 fg_Script_28_6 rfl rfl d_Script_openRepeat_36 ?_
      refine cw_iconst 2 d_Script_openRepeat_39 rfl ?_
      refine ev_icmp_ge (tgt := 68) (by decide) d_Script_openRepeat_40 (fun c => ?_) (fun c => ?_)
      · rw [if_pos c] at h
        have hP := kE _ (Option.some.inj h).symm
        exact ev_return (st := []) rfl d_Script_openRepeat_68 (by rw [hP]; exact ⟨rfl, hG, rfl⟩)
      · rw [if_neg c] at h
        refine ev_aload_n (k0 := 0) rfl d_Script_openRepeat_43 ?_
        refine cv_get9 (.inr (0, off 22 0)) hG v_6 fg_Script_24_6 rfl rfl d_Script_openRepeat_44 ?_
        refine ev_aload_n (k0 := 0) rfl d_Script_openRepeat_47 ?_
        refine cv_get9 (.inl (.int (r3 6 0 10))) hG v_6 fg_Script_28_6 rfl rfl d_Script_openRepeat_48 ?_
        refine ev_aload_n (k0 := 0) rfl d_Script_openRepeat_51 ?_
        refine cv_get9 (.inl (.int (r3 6 0 7))) hG v_6 fg_Script_17_6 rfl rfl d_Script_openRepeat_52 ?_
        refine cw_iconst 1 d_Script_openRepeat_55 rfl ?_
        refine ev_isub d_Script_openRepeat_56 ?_
        obtain ⟨b4, h⟩ := chk_some h
        obtain ⟨μ5, e_μ5, h⟩ := nm_some h
        refine cv_iast hG okC v_22 rfl rfl b4 rfl d_Script_openRepeat_57 ?_
        intro G hG; rw [← e_μ5] at hG
        refine ev_aload_n (k0 := 0) rfl d_Script_openRepeat_58 ?_
        refine ev_dup rfl d_Script_openRepeat_59 ?_
        refine Ev.at (pc' := 60) rfl ?_
        refine cv_get9 (.inl (.int (μ5 6 0 10))) hG v_6 fg_Script_28_6 rfl rfl d_Script_openRepeat_60 ?_
        refine cw_iconst 1 d_Script_openRepeat_63 rfl ?_
        refine ev_iadd d_Script_openRepeat_64 ?_
        obtain ⟨μ6, e_μ6, h⟩ := nm_some h
        refine cv_put (.inl (.int ((μ5 6 0 10) + 1))) ((μ5 6 0 10) + 1) hG okC v_6 fl_Script_28_6 rfl rfl okv_int d_Script_openRepeat_65 ?_
        intro G hG; rw [← e_μ6] at hG
        have hP := kE _ (Option.some.inj h).symm
        exact ev_return (st := []) rfl d_Script_openRepeat_68 (by rw [hP]; exact ⟨rfl, hG, rfl⟩)
  clear h
  have h := hj
  refine ev_if_eq (tgt := 22) (by decide) d_Script_openRepeat_6 (fun c => ?_) (fun c => ?_)
  · rw [if_pos c] at h
    obtain rfl := Option.some.inj h
    exact K_q2 G hG
  · rw [if_neg c] at h
    refine ev_aload_n (k0 := 0) rfl d_Script_openRepeat_9 ?_
    refine cv_get9 (.inl (.int (μ 6 0 10))) hG v_6 fg_Script_28_6 rfl rfl d_Script_openRepeat_10 ?_
    refine cw_iconst 2 d_Script_openRepeat_13 rfl ?_
    refine ev_icmp_lt (tgt := 22) (by decide) d_Script_openRepeat_14 (fun c => ?_) (fun c => ?_)
    · rw [if_pos c] at h
      obtain rfl := Option.some.inj h
      exact K_q2 G hG
    · rw [if_neg c] at h
      refine ev_aload_n (k0 := 0) rfl d_Script_openRepeat_17 ?_
      refine cw_iconst 4 d_Script_openRepeat_18 rfl ?_
      obtain ⟨r7, hr7, h⟩ := bind_some9 h
      refine cv_U (d := d + 2) (mc1 := 0) (ms1 := 0) (mc := 0) (ms := 0) [.inl (.int 4)] hG v_6 rfl lk_Script_55_6 (w_Reader_fail_6 (d + 2) hG hr7) rfl rfl d_Script_openRepeat_19 (aft_rw (fun G hG => ?_))
      refine Ev.at (pc' := 22) rfl (Ev.cong (st' := []) ?_ rfl rfl)
      obtain rfl := Option.some.inj h
      exact K_q2 G hG

/-- ProphecyShop$Script.readCommand -/
def f_Script_readCommand (j1 : Nat) (μ : Mem) : Option (Mem) :=
  ((f_Reader_sees 6 7 μ)).bind (fun r1 => if r1 = 0 then (((f_Reader_sees 6 11 μ)).bind (fun r2 => if r2 = 0 then (((f_Reader_sees 6 12 μ)).bind (fun r3 => if r3 = 0 then (((f_Reader_sees 6 13 μ)).bind (fun r4 => if r4 = 0 then (((f_Reader_sees 6 14 μ)).bind (fun r5 => if r5 = 0 then (((f_Reader_fail 6 1 μ)).bind (fun r6 => some r6)) else (((f_Script_addCommand 14 4 μ)).bind (fun r7 => chk (decide (r7.1 < 60)) (((f_Reader_takeNumber 6 0 20 r7.2)).bind (fun r9 => nm (st3 r9.2 10 r7.1 8 r9.1) (fun μ10 => ((f_Script_openRepeat μ10)).bind (fun r11 => some r11)))))))) else (((f_Script_addCommand 13 3 μ)).bind (fun r12 => chk (decide (r12.1 < 60)) (((f_Reader_takeNumber 6 1 60 r12.2)).bind (fun r14 => nm (st3 r14.2 10 r12.1 8 r14.1) (fun μ15 => ((f_Reader_takeSign 6 59 μ15)).bind (fun r16 => some r16)))))))) else (((f_Script_addCommand 12 2 μ)).bind (fun r17 => chk (decide (r17.1 < 60)) (((f_Reader_takeNumber 6 0 23 r17.2)).bind (fun r19 => nm (st3 r19.2 10 r17.1 8 r19.1) (fun μ20 => ((f_Reader_takeSign 6 59 μ20)).bind (fun r21 => some r21)))))))) else (((f_Script_addCommand 11 1 μ)).bind (fun r22 => chk (decide (r22.1 < 60)) (((f_Script_readHappen r22.1 j1 r22.2)).bind (fun r24 => some r24)))))) else (((f_Script_addCommand 7 0 μ)).bind (fun r25 => chk (decide (r25.1 < 60)) (((f_Script_readSell r25.1 j1 r25.2)).bind (fun r27 => some r27)))))
set_option maxRecDepth 100000 in
set_option maxHeartbeats 4000000 in
theorem w_Script_readCommand {g : GL} {F G : RG} {nx : Nat} (d : Nat) {j1 : Nat} {μ : Mem} (hv1 : vc 7 j1) (hSG : SG g) {o : Mem} (hG : LM vc 0 535 μ F G) (h : f_Script_readCommand j1 μ = some o) : Mt g (d + 10) m_Script_readCommand [.inr (0, off 6 0), .inr (0, off 7 j1)] (G, nx) 0 0 (pRW vc 0 535 rV o F nx) := by
  unfold f_Script_readCommand at h
  have kE : ∀ v, o = v → pRW vc 0 535 rV o F nx = pRW vc 0 535 rV v F nx := fun v e => by rw [e]
  refine Mt.of9 [some (.inr (0, off 6 0)), some (.inr (0, off 7 j1))] (by decide +kernel) rfl rfl rfl rfl ?_
  refine ev_aload_n (k0 := 0) rfl d_Script_readCommand_0 ?_
  refine ev_ldcS st_7 d_Script_readCommand_1 ?_
  obtain ⟨r1, hr1, h⟩ := bind_some9 h
  refine cv_U (d := d + 9) (mc1 := 0) (ms1 := 0) (mc := 0) (ms := 0) [.inr (1, 7)] hG v_6 rfl lk_Script_61_6 (w_Reader_sees_6 (d + 3) (by decide) hSG hG hr1) rfl rfl d_Script_readCommand_3 (aft_ro ?_)
  refine Ev.at (pc' := 6) rfl (Ev.cong (st' := [.inl (.int r1)]) ?_ rfl rfl)
  refine ev_if_eq (tgt := 24) (by decide) d_Script_readCommand_6 (fun c => ?_) (fun c => ?_)
  · rw [if_pos c] at h
    refine ev_aload_n (k0 := 0) rfl d_Script_readCommand_24 ?_
    refine ev_ldcS st_11 d_Script_readCommand_25 ?_
    obtain ⟨r2, hr2, h⟩ := bind_some9 h
    refine cv_U (d := d + 9) (mc1 := 0) (ms1 := 0) (mc := 0) (ms := 0) [.inr (1, 11)] hG v_6 rfl lk_Script_61_6 (w_Reader_sees_6 (d + 3) (by decide) hSG hG hr2) rfl rfl d_Script_readCommand_27 (aft_ro ?_)
    refine Ev.at (pc' := 30) rfl (Ev.cong (st' := [.inl (.int r2)]) ?_ rfl rfl)
    refine ev_if_eq (tgt := 48) (by decide) d_Script_readCommand_30 (fun c => ?_) (fun c => ?_)
    · rw [if_pos c] at h
      refine ev_aload_n (k0 := 0) rfl d_Script_readCommand_48 ?_
      refine ev_ldcS st_12 d_Script_readCommand_49 ?_
      obtain ⟨r3, hr3, h⟩ := bind_some9 h
      refine cv_U (d := d + 9) (mc1 := 0) (ms1 := 0) (mc := 0) (ms := 0) [.inr (1, 12)] hG v_6 rfl lk_Script_61_6 (w_Reader_sees_6 (d + 3) (by decide) hSG hG hr3) rfl rfl d_Script_readCommand_51 (aft_ro ?_)
      refine Ev.at (pc' := 54) rfl (Ev.cong (st' := [.inl (.int r3)]) ?_ rfl rfl)
      refine ev_if_eq (tgt := 83) (by decide) d_Script_readCommand_54 (fun c => ?_) (fun c => ?_)
      · rw [if_pos c] at h
        refine ev_aload_n (k0 := 0) rfl d_Script_readCommand_83 ?_
        refine ev_ldcS st_13 d_Script_readCommand_84 ?_
        obtain ⟨r4, hr4, h⟩ := bind_some9 h
        refine cv_U (d := d + 9) (mc1 := 0) (ms1 := 0) (mc := 0) (ms := 0) [.inr (1, 13)] hG v_6 rfl lk_Script_61_6 (w_Reader_sees_6 (d + 3) (by decide) hSG hG hr4) rfl rfl d_Script_readCommand_86 (aft_ro ?_)
        refine Ev.at (pc' := 89) rfl (Ev.cong (st' := [.inl (.int r4)]) ?_ rfl rfl)
        refine ev_if_eq (tgt := 118) (by decide) d_Script_readCommand_89 (fun c => ?_) (fun c => ?_)
        · rw [if_pos c] at h
          refine ev_aload_n (k0 := 0) rfl d_Script_readCommand_118 ?_
          refine ev_ldcS st_14 d_Script_readCommand_119 ?_
          obtain ⟨r5, hr5, h⟩ := bind_some9 h
          refine cv_U (d := d + 9) (mc1 := 0) (ms1 := 0) (mc := 0) (ms := 0) [.inr (1, 14)] hG v_6 rfl lk_Script_61_6 (w_Reader_sees_6 (d + 3) (by decide) hSG hG hr5) rfl rfl d_Script_readCommand_121 (aft_ro ?_)
          refine Ev.at (pc' := 124) rfl (Ev.cong (st' := [.inl (.int r5)]) ?_ rfl rfl)
          refine ev_if_eq (tgt := 151) (by decide) d_Script_readCommand_124 (fun c => ?_) (fun c => ?_)
          · rw [if_pos c] at h
            refine ev_aload_n (k0 := 0) rfl d_Script_readCommand_151 ?_
            refine cw_iconst 1 d_Script_readCommand_152 rfl ?_
            obtain ⟨r6, hr6, h⟩ := bind_some9 h
            refine cv_U (d := d + 9) (mc1 := 0) (ms1 := 0) (mc := 0) (ms := 0) [.inl (.int 1)] hG v_6 rfl lk_Script_55_6 (w_Reader_fail_6 (d + 9) hG hr6) rfl rfl d_Script_readCommand_153 (aft_rw (fun G hG => ?_))
            refine Ev.at (pc' := 156) rfl (Ev.cong (st' := []) ?_ rfl rfl)
            have hP := kE _ (Option.some.inj h).symm
            exact ev_return (st := []) rfl d_Script_readCommand_156 (by rw [hP]; exact ⟨rfl, hG, rfl⟩)
          · rw [if_neg c] at h
            refine ev_aload_n (k0 := 0) rfl d_Script_readCommand_127 ?_
            refine ev_ldcS st_14 d_Script_readCommand_128 ?_
            refine cw_iconst 4 d_Script_readCommand_130 rfl ?_
            obtain ⟨r7, hr7, h⟩ := bind_some9 h
            refine cv_V (d := d + 9) (mc1 := 0) (ms1 := 0) (mc := 0) (ms := 0) [.inr (1, 14), .inl (.int 4)] hG v_6 rfl lk_Script_65 (w_Script_addCommand (d + 1) (by decide) hSG hG hr7) rfl rfl d_Script_readCommand_131 (aft_rw (fun G hG => ?_))
            obtain ⟨b8, h⟩ := chk_some h
            refine Ev.at (pc' := 134) rfl (Ev.cong (st' := [.inr (0, off 10 r7.1)]) ?_ rfl rfl)
            refine ev_aload_n (k0 := 0) rfl d_Script_readCommand_134 ?_
            refine cw_iconst 0 d_Script_readCommand_135 rfl ?_
            refine cw_bipush 20 d_Script_readCommand_136 rfl ?_
            obtain ⟨r9, hr9, h⟩ := bind_some9 h
            refine cv_U (d := d + 9) (mc1 := 0) (ms1 := 0) (mc := 0) (ms := 0) [.inl (.int 0), .inl (.int 20)] hG v_6 rfl lk_Script_80_6 (w_Reader_takeNumber_6 (d + 7) hG hr9) rfl rfl d_Script_readCommand_138 (aft_rw (fun G hG => ?_))
            refine Ev.at (pc' := 141) rfl (Ev.cong (st' := [.inl (.int r9.1), .inr (0, off 10 r7.1)]) ?_ rfl rfl)
            obtain ⟨μ10, e_μ10, h⟩ := nm_some h
            refine cv_put (.inl (.int r9.1)) r9.1 hG okC (show vc 10 _ from dlt9 b8) fl_Script_84_10 rfl rfl okv_int d_Script_readCommand_141 ?_
            intro G hG; rw [← e_μ10] at hG
            refine ev_aload_n (k0 := 0) rfl d_Script_readCommand_144 ?_
            obtain ⟨r11, hr11, h⟩ := bind_some9 h
            refine cv_V (d := d + 9) (mc1 := 0) (ms1 := 0) (mc := 0) (ms := 0) [] hG v_6 rfl lk_Script_95 (w_Script_openRepeat (d + 6) hG hr11) rfl rfl d_Script_readCommand_145 (aft_rw (fun G hG => ?_))
            refine Ev.at (pc' := 148) rfl (Ev.cong (st' := []) ?_ rfl rfl)
            refine ev_goto (tgt := 156) (by decide) d_Script_readCommand_148 ?_
            have hP := kE _ (Option.some.inj h).symm
            exact ev_return (st := []) rfl d_Script_readCommand_156 (by rw [hP]; exact ⟨rfl, hG, rfl⟩)
        · rw [if_neg c] at h
          refine ev_aload_n (k0 := 0) rfl d_Script_readCommand_92 ?_
          refine ev_ldcS st_13 d_Script_readCommand_93 ?_
          refine cw_iconst 3 d_Script_readCommand_95 rfl ?_
          obtain ⟨r12, hr12, h⟩ := bind_some9 h
          refine cv_V (d := d + 9) (mc1 := 0) (ms1 := 0) (mc := 0) (ms := 0) [.inr (1, 13), .inl (.int 3)] hG v_6 rfl lk_Script_65 (w_Script_addCommand (d + 1) (by decide) hSG hG hr12) rfl rfl d_Script_readCommand_96 (aft_rw (fun G hG => ?_))
          obtain ⟨b13, h⟩ := chk_some h
          refine Ev.at (pc' := 99) rfl (Ev.cong (st' := [.inr (0, off 10 r12.1)]) ?_ rfl rfl)
          refine ev_aload_n (k0 := 0) rfl d_Script_readCommand_99 ?_
          refine cw_iconst 1 d_Script_readCommand_100 rfl ?_
          refine cw_bipush 60 d_Script_readCommand_101 rfl ?_
          obtain ⟨r14, hr14, h⟩ := bind_some9 h
          refine cv_U (d := d + 9) (mc1 := 0) (ms1 := 0) (mc := 0) (ms := 0) [.inl (.int 1), .inl (.int 60)] hG v_6 rfl lk_Script_80_6 (w_Reader_takeNumber_6 (d + 7) hG hr14) rfl rfl d_Script_readCommand_103 (aft_rw (fun G hG => ?_))
          refine Ev.at (pc' := 106) rfl (Ev.cong (st' := [.inl (.int r14.1), .inr (0, off 10 r12.1)]) ?_ rfl rfl)
          obtain ⟨μ15, e_μ15, h⟩ := nm_some h
          refine cv_put (.inl (.int r14.1)) r14.1 hG okC (show vc 10 _ from dlt9 b13) fl_Script_84_10 rfl rfl okv_int d_Script_readCommand_106 ?_
          intro G hG; rw [← e_μ15] at hG
          refine ev_aload_n (k0 := 0) rfl d_Script_readCommand_109 ?_
          refine cw_bipush 59 d_Script_readCommand_110 rfl ?_
          obtain ⟨r16, hr16, h⟩ := bind_some9 h
          refine cv_U (d := d + 9) (mc1 := 0) (ms1 := 0) (mc := 0) (ms := 0) [.inl (.int 59)] hG v_6 rfl lk_Script_87_6 (w_Reader_takeSign_6 (d + 7) hG hr16) rfl rfl d_Script_readCommand_112 (aft_rw (fun G hG => ?_))
          refine Ev.at (pc' := 115) rfl (Ev.cong (st' := []) ?_ rfl rfl)
          refine ev_goto (tgt := 156) (by decide) d_Script_readCommand_115 ?_
          have hP := kE _ (Option.some.inj h).symm
          exact ev_return (st := []) rfl d_Script_readCommand_156 (by rw [hP]; exact ⟨rfl, hG, rfl⟩)
      · rw [if_neg c] at h
        refine ev_aload_n (k0 := 0) rfl d_Script_readCommand_57 ?_
        refine ev_ldcS st_12 d_Script_readCommand_58 ?_
        refine cw_iconst 2 d_Script_readCommand_60 rfl ?_
        obtain ⟨r17, hr17, h⟩ := bind_some9 h
        refine cv_V (d := d + 9) (mc1 := 0) (ms1 := 0) (mc := 0) (ms := 0) [.inr (1, 12), .inl (.int 2)] hG v_6 rfl lk_Script_65 (w_Script_addCommand (d + 1) (by decide) hSG hG hr17) rfl rfl d_Script_readCommand_61 (aft_rw (fun G hG => ?_))
        obtain ⟨b18, h⟩ := chk_some h
        refine Ev.at (pc' := 64) rfl (Ev.cong (st' := [.inr (0, off 10 r17.1)]) ?_ rfl rfl)
        refine ev_aload_n (k0 := 0) rfl d_Script_readCommand_64 ?_
        refine cw_iconst 0 d_Script_readCommand_65 rfl ?_
        refine cw_bipush 23 d_Script_readCommand_66 rfl ?_
        obtain ⟨r19, hr19, h⟩ := bind_some9 h
        refine cv_U (d := d + 9) (mc1 := 0) (ms1 := 0) (mc := 0) (ms := 0) [.inl (.int 0), .inl (.int 23)] hG v_6 rfl lk_Script_80_6 (w_Reader_takeNumber_6 (d + 7) hG hr19) rfl rfl d_Script_readCommand_68 (aft_rw (fun G hG => ?_))
        refine Ev.at (pc' := 71) rfl (Ev.cong (st' := [.inl (.int r19.1), .inr (0, off 10 r17.1)]) ?_ rfl rfl)
        obtain ⟨μ20, e_μ20, h⟩ := nm_some h
        refine cv_put (.inl (.int r19.1)) r19.1 hG okC (show vc 10 _ from dlt9 b18) fl_Script_84_10 rfl rfl okv_int d_Script_readCommand_71 ?_
        intro G hG; rw [← e_μ20] at hG
        refine ev_aload_n (k0 := 0) rfl d_Script_readCommand_74 ?_
        refine cw_bipush 59 d_Script_readCommand_75 rfl ?_
        obtain ⟨r21, hr21, h⟩ := bind_some9 h
        refine cv_U (d := d + 9) (mc1 := 0) (ms1 := 0) (mc := 0) (ms := 0) [.inl (.int 59)] hG v_6 rfl lk_Script_87_6 (w_Reader_takeSign_6 (d + 7) hG hr21) rfl rfl d_Script_readCommand_77 (aft_rw (fun G hG => ?_))
        refine Ev.at (pc' := 80) rfl (Ev.cong (st' := []) ?_ rfl rfl)
        refine ev_goto (tgt := 156) (by decide) d_Script_readCommand_80 ?_
        have hP := kE _ (Option.some.inj h).symm
        exact ev_return (st := []) rfl d_Script_readCommand_156 (by rw [hP]; exact ⟨rfl, hG, rfl⟩)
    · rw [if_neg c] at h
      refine ev_aload_n (k0 := 0) rfl d_Script_readCommand_33 ?_
      refine ev_aload_n (k0 := 0) rfl d_Script_readCommand_34 ?_
      refine ev_ldcS st_11 d_Script_readCommand_35 ?_
      refine cw_iconst 1 d_Script_readCommand_37 rfl ?_
      obtain ⟨r22, hr22, h⟩ := bind_some9 h
      refine cv_V (d := d + 9) (mc1 := 0) (ms1 := 0) (mc := 0) (ms := 0) [.inr (1, 11), .inl (.int 1)] hG v_6 rfl lk_Script_65 (w_Script_addCommand (d + 1) (by decide) hSG hG hr22) rfl rfl d_Script_readCommand_38 (aft_rw (fun G hG => ?_))
      obtain ⟨b23, h⟩ := chk_some h
      refine Ev.at (pc' := 41) rfl (Ev.cong (st' := [.inr (0, off 10 r22.1), .inr (0, off 6 0)]) ?_ rfl rfl)
      refine ev_aload_n (k0 := 1) rfl d_Script_readCommand_41 ?_
      obtain ⟨r24, hr24, h⟩ := bind_some9 h
      refine cv_V (d := d + 9) (mc1 := 0) (ms1 := 0) (mc := 0) (ms := 0) [.inr (0, off 10 r22.1), .inr (0, off 7 j1)] hG v_6 rfl lk_Script_75 (w_Script_readHappen (d + 5) (show vc 10 _ from dlt9 b23) hv1 hG hr24) rfl rfl d_Script_readCommand_42 (aft_rw (fun G hG => ?_))
      refine Ev.at (pc' := 45) rfl (Ev.cong (st' := []) ?_ rfl rfl)
      refine ev_goto (tgt := 156) (by decide) d_Script_readCommand_45 ?_
      have hP := kE _ (Option.some.inj h).symm
      exact ev_return (st := []) rfl d_Script_readCommand_156 (by rw [hP]; exact ⟨rfl, hG, rfl⟩)
  · rw [if_neg c] at h
    refine ev_aload_n (k0 := 0) rfl d_Script_readCommand_9 ?_
    refine ev_aload_n (k0 := 0) rfl d_Script_readCommand_10 ?_
    refine ev_ldcS st_7 d_Script_readCommand_11 ?_
    refine cw_iconst 0 d_Script_readCommand_13 rfl ?_
    obtain ⟨r25, hr25, h⟩ := bind_some9 h
    refine cv_V (d := d + 9) (mc1 := 0) (ms1 := 0) (mc := 0) (ms := 0) [.inr (1, 7), .inl (.int 0)] hG v_6 rfl lk_Script_65 (w_Script_addCommand (d + 1) (by decide) hSG hG hr25) rfl rfl d_Script_readCommand_14 (aft_rw (fun G hG => ?_))
    obtain ⟨b26, h⟩ := chk_some h
    refine Ev.at (pc' := 17) rfl (Ev.cong (st' := [.inr (0, off 10 r25.1), .inr (0, off 6 0)]) ?_ rfl rfl)
    refine ev_aload_n (k0 := 1) rfl d_Script_readCommand_17 ?_
    obtain ⟨r27, hr27, h⟩ := bind_some9 h
    refine cv_V (d := d + 9) (mc1 := 0) (ms1 := 0) (mc := 0) (ms := 0) [.inr (0, off 10 r25.1), .inr (0, off 7 j1)] hG v_6 rfl lk_Script_69 (w_Script_readSell (d + 0) (show vc 10 _ from dlt9 b26) hv1 hSG hG hr27) rfl rfl d_Script_readCommand_18 (aft_rw (fun G hG => ?_))
    refine Ev.at (pc' := 21) rfl (Ev.cong (st' := []) ?_ rfl rfl)
    refine ev_goto (tgt := 156) (by decide) d_Script_readCommand_21 ?_
    have hP := kE _ (Option.some.inj h).symm
    exact ev_return (st := []) rfl d_Script_readCommand_156 (by rw [hP]; exact ⟨rfl, hG, rfl⟩)

/-- ProphecyShop$Script.readFor -/
def s_Script_readFor_21 (j1 : Nat) (x2 : Int32) (μ : Mem) : Option ((Int32 × Mem) ⊕ (Mem)) :=
  if (800 : Int32) ≤ x2 then (some (.inr μ)) else (if (μ 6 0 4) = 0 then (((f_Reader_seesEnd 6 μ)).bind (fun r1 => if r1 = 0 then (if (μ 6 0 10) ≤ 0 then (((f_Script_readCommand j1 μ)).bind (fun r2 => some (.inl ((x2 + 1, r2))))) else (((f_Reader_seesSign 6 41 μ)).bind (fun r3 => if r3 = 0 then (((f_Script_readCommand j1 μ)).bind (fun r4 => some (.inl ((x2 + 1, r4))))) else (((f_Script_closeRepeat μ)).bind (fun r5 => some (.inl ((x2 + 1, r5)))))))) else (some (.inr μ)))) else (some (.inr μ)))
def f_Script_readFor (j1 : Nat) (μ : Mem) : Option (Int32 × Mem) :=
  nm (st3 μ 6 0 7 0) (fun μ1 => nm (st3 μ1 6 0 8 0) (fun μ2 => nm (st3 μ2 6 0 10 0) (fun μ3 => ((f_Reader_begin 6 μ3)).bind (fun r4 => (it (fun (s : Int32 × Mem) => s_Script_readFor_21 j1 s.1 s.2) LIM ((0, r4))).bind (fun q5 => if (q5 6 0 10) ≤ 0 then (some ((q5 6 0 4, q5))) else (((f_Reader_fail 6 1 q5)).bind (fun r6 => some ((r6 6 0 4, r6)))))))))
set_option maxRecDepth 100000 in
set_option maxHeartbeats 4000000 in
theorem ws_Script_readFor_21 {g : GL} {F G : RG} {nx mc ms : Nat} {Post : RO → RM → Prop} (d : Nat) {j1 : Nat} {x2 : Int32} {μ : Mem} (hv1 : vc 7 j1) (hSG : SG g) {o : (Int32 × Mem) ⊕ (Mem)} (hG : LM vc 0 535 μ F G) (h : s_Script_readFor_21 j1 x2 μ = some o)
    (kC : ∀ s', o = .inl s' → ∀ G, LM vc 0 535 s'.2 F G → Ev g (d + 11) m_Script_readFor 21 [some (.inr (0, off 6 0)), some (.inr (0, off 7 j1)), some (.inl (.int s'.1))] [] (G, nx) mc ms Post)
    (kX : ∀ r, o = .inr r → ∀ G, LM vc 0 535 r F G → Ev g (d + 11) m_Script_readFor 76 [some (.inr (0, off 6 0)), none, none] [] (G, nx) mc ms Post)
    : Ev g (d + 11) m_Script_readFor 21 [some (.inr (0, off 6 0)), some (.inr (0, off 7 j1)), some (.inl (.int x2))] [] (G, nx) mc ms Post := by
  unfold s_Script_readFor_21 at h
  refine ev_iload_n (k0 := 2) rfl d_Script_readFor_21 ?_
  refine cw_sipush 800 d_Script_readFor_22 rfl ?_
  refine ev_icmp_ge (tgt := 76) (by decide) d_Script_readFor_25 (fun c => ?_) (fun c => ?_)
  · rw [if_pos c] at h
    exact Ev.sub (.s (.n (.n LSb.z))) (kX _ (Option.some.inj h).symm G hG)
  · rw [if_neg c] at h
    refine ev_aload_n (k0 := 0) rfl d_Script_readFor_28 ?_
    refine cv_get9 (.inl (.int (μ 6 0 4))) hG v_6 fg_Script_37_6 rfl rfl d_Script_readFor_29 ?_
    refine ev_if_ne (tgt := 76) (by decide) d_Script_readFor_32 (fun c => ?_) (fun c => ?_)
    · rw [if_neg c] at h
      exact Ev.sub (.s (.n (.n LSb.z))) (kX _ (Option.some.inj h).symm G hG)
    · rw [if_pos c] at h
      refine ev_aload_n (k0 := 0) rfl d_Script_readFor_35 ?_
      obtain ⟨r1, hr1, h⟩ := bind_some9 h
      refine Ev.z9 ?_
      refine cv_U (d := d + 10) (mc1 := 0) (ms1 := 0) (mc := mc) (ms := ms) [] hG v_6 rfl lk_Script_40_6 (w_Reader_seesEnd_6 (d + 10) hG hr1) rfl rfl d_Script_readFor_36 (aft_ro ?_)
      refine Ev.at (pc' := 39) rfl (Ev.cong (st' := [.inl (.int r1)]) ?_ rfl rfl)
      refine ev_if_ne (tgt := 76) (by decide) d_Script_readFor_39 (fun c => ?_) (fun c => ?_)
      · rw [if_neg c] at h
        exact Ev.sub (.s (.n (.n LSb.z))) (kX _ (Option.some.inj h).symm G hG)
      · rw [if_pos c] at h
        refine ev_aload_n (k0 := 0) rfl d_Script_readFor_42 ?_
        refine cv_get9 (.inl (.int (μ 6 0 10))) hG v_6 fg_Script_28_6 rfl rfl d_Script_readFor_43 ?_
        refine ev_if_le (tgt := 65) (by decide) d_Script_readFor_46 (fun c => ?_) (fun c => ?_)
        · rw [if_pos c] at h
          refine ev_aload_n (k0 := 0) rfl d_Script_readFor_65 ?_
          refine ev_aload_n (k0 := 1) rfl d_Script_readFor_66 ?_
          obtain ⟨r2, hr2, h⟩ := bind_some9 h
          refine Ev.z9 ?_
          refine cv_V (d := d + 10) (mc1 := 0) (ms1 := 0) (mc := mc) (ms := ms) [.inr (0, off 7 j1)] hG v_6 rfl lk_Script_51 (w_Script_readCommand (d + 0) hv1 hSG hG hr2) rfl rfl d_Script_readFor_67 (aft_rw (fun G hG => ?_))
          refine Ev.at (pc' := 70) rfl (Ev.cong (st' := []) ?_ rfl rfl)
          refine cw_iincN 2 1 [some (.inr (0, off 6 0)), some (.inr (0, off 7 j1)), some (.inl (.int (x2 + 1)))] d_Script_readFor_70 rfl rfl rfl rfl rfl ?_
          refine ev_goto (tgt := 21) (by decide) d_Script_readFor_73 ?_
          exact kC _ (Option.some.inj h).symm G hG
        · rw [if_neg c] at h
          refine ev_aload_n (k0 := 0) rfl d_Script_readFor_49 ?_
          refine cw_bipush 41 d_Script_readFor_50 rfl ?_
          obtain ⟨r3, hr3, h⟩ := bind_some9 h
          refine Ev.z9 ?_
          refine cv_U (d := d + 10) (mc1 := 0) (ms1 := 0) (mc := mc) (ms := ms) [.inl (.int 41)] hG v_6 rfl lk_Script_44_6 (w_Reader_seesSign_6 (d + 10) hG hr3) rfl rfl d_Script_readFor_52 (aft_ro ?_)
          refine Ev.at (pc' := 55) rfl (Ev.cong (st' := [.inl (.int r3)]) ?_ rfl rfl)
          refine ev_if_eq (tgt := 65) (by decide) d_Script_readFor_55 (fun c => ?_) (fun c => ?_)
          · rw [if_pos c] at h
            refine ev_aload_n (k0 := 0) rfl d_Script_readFor_65 ?_
            refine ev_aload_n (k0 := 1) rfl d_Script_readFor_66 ?_
            obtain ⟨r4, hr4, h⟩ := bind_some9 h
            refine Ev.z9 ?_
            refine cv_V (d := d + 10) (mc1 := 0) (ms1 := 0) (mc := mc) (ms := ms) [.inr (0, off 7 j1)] hG v_6 rfl lk_Script_51 (w_Script_readCommand (d + 0) hv1 hSG hG hr4) rfl rfl d_Script_readFor_67 (aft_rw (fun G hG => ?_))
            refine Ev.at (pc' := 70) rfl (Ev.cong (st' := []) ?_ rfl rfl)
            refine cw_iincN 2 1 [some (.inr (0, off 6 0)), some (.inr (0, off 7 j1)), some (.inl (.int (x2 + 1)))] d_Script_readFor_70 rfl rfl rfl rfl rfl ?_
            refine ev_goto (tgt := 21) (by decide) d_Script_readFor_73 ?_
            exact kC _ (Option.some.inj h).symm G hG
          · rw [if_neg c] at h
            refine ev_aload_n (k0 := 0) rfl d_Script_readFor_58 ?_
            obtain ⟨r5, hr5, h⟩ := bind_some9 h
            refine Ev.z9 ?_
            refine cv_V (d := d + 10) (mc1 := 0) (ms1 := 0) (mc := mc) (ms := ms) [] hG v_6 rfl lk_Script_48 (w_Script_closeRepeat (d + 7) hG hr5) rfl rfl d_Script_readFor_59 (aft_rw (fun G hG => ?_))
            refine Ev.at (pc' := 62) rfl (Ev.cong (st' := []) ?_ rfl rfl)
            refine ev_goto (tgt := 70) (by decide) d_Script_readFor_62 ?_
            refine cw_iincN 2 1 [some (.inr (0, off 6 0)), some (.inr (0, off 7 j1)), some (.inl (.int (x2 + 1)))] d_Script_readFor_70 rfl rfl rfl rfl rfl ?_
            refine ev_goto (tgt := 21) (by decide) d_Script_readFor_73 ?_
            exact kC _ (Option.some.inj h).symm G hG
set_option maxRecDepth 100000 in
set_option maxHeartbeats 4000000 in
theorem w_Script_readFor {g : GL} {F G : RG} {nx : Nat} (d : Nat) {j1 : Nat} {μ : Mem} (hv1 : vc 7 j1) (hSG : SG g) {o : Int32 × Mem} (hG : LM vc 0 535 μ F G) (h : f_Script_readFor j1 μ = some o) : Mt g (d + 11) m_Script_readFor [.inr (0, off 6 0), .inr (0, off 7 j1)] (G, nx) 0 0 (pRW vc 0 535 (rI o.1) o.2 F nx) := by
  unfold f_Script_readFor at h
  have kE : ∀ v, o = v → pRW vc 0 535 (rI o.1) o.2 F nx = pRW vc 0 535 (rI v.1) v.2 F nx := fun v e => by rw [e]
  refine Mt.of9 [some (.inr (0, off 6 0)), some (.inr (0, off 7 j1)), none] (by decide +kernel) rfl rfl rfl rfl ?_
  refine ev_aload_n (k0 := 0) rfl d_Script_readFor_0 ?_
  refine cw_iconst 0 d_Script_readFor_1 rfl ?_
  obtain ⟨μ1, e_μ1, h⟩ := nm_some h
  refine cv_put (.inl (.int 0)) 0 hG okC v_6 fl_Script_17_6 rfl rfl okv_int d_Script_readFor_2 ?_
  intro G hG; rw [← e_μ1] at hG
  refine ev_aload_n (k0 := 0) rfl d_Script_readFor_5 ?_
  refine cw_iconst 0 d_Script_readFor_6 rfl ?_
  obtain ⟨μ2, e_μ2, h⟩ := nm_some h
  refine cv_put (.inl (.int 0)) 0 hG okC v_6 fl_Script_21_6 rfl rfl okv_int d_Script_readFor_7 ?_
  intro G hG; rw [← e_μ2] at hG
  refine ev_aload_n (k0 := 0) rfl d_Script_readFor_10 ?_
  refine cw_iconst 0 d_Script_readFor_11 rfl ?_
  obtain ⟨μ3, e_μ3, h⟩ := nm_some h
  refine cv_put (.inl (.int 0)) 0 hG okC v_6 fl_Script_28_6 rfl rfl okv_int d_Script_readFor_12 ?_
  intro G hG; rw [← e_μ3] at hG
  refine ev_aload_n (k0 := 0) rfl d_Script_readFor_15 ?_
  obtain ⟨r4, hr4, h⟩ := bind_some9 h
  refine cv_U (d := d + 10) (mc1 := 0) (ms1 := 0) (mc := 0) (ms := 0) [] hG v_6 rfl lk_Script_34_6 (w_Reader_begin_6 (d + 8) hG hr4) rfl rfl d_Script_readFor_16 (aft_rw (fun G hG => ?_))
  refine Ev.at (pc' := 19) rfl (Ev.cong (st' := []) ?_ rfl rfl)
  refine cw_iconst 0 d_Script_readFor_19 rfl ?_
  refine cw_istoreN_n 2 0 rfl [some (.inr (0, off 6 0)), some (.inr (0, off 7 j1)), some (.inl (.int 0))] d_Script_readFor_20 rfl rfl rfl ?_
  obtain ⟨q5, hl, h⟩ := bind_some9 h
  refine it_ev (W := fun (s : Int32 × Mem) => ∀ G, LM vc 0 535 s.2 F G → Ev g (d + 11) m_Script_readFor 21 [some (.inr (0, off 6 0)), some (.inr (0, off 7 j1)), some (.inl (.int s.1))] [] (G, nx) 0 0 (pRW vc 0 535 (rI o.1) o.2 F nx)) (X := fun z => z = q5) rfl (fun s9 o9 hs kC9 kX9 => ?_) LIM _ hl G hG
  intro G hG
  refine ws_Script_readFor_21 d hv1 hSG hG hs kC9 (fun r_ e G hG => ?_)
  · obtain rfl := (kX9 _ e).symm
    refine ev_aload_n (k0 := 0) rfl d_Script_readFor_76 ?_
    refine cv_get9 (.inl (.int (q5 6 0 10))) hG v_6 fg_Script_28_6 rfl rfl d_Script_readFor_77 ?_
    refine ev_if_le (tgt := 88) (by decide) d_Script_readFor_80 (fun c => ?_) (fun c => ?_)
    · rw [if_pos c] at h
      refine ev_aload_n (k0 := 0) rfl d_Script_readFor_88 ?_
      refine cv_get9 (.inl (.int (q5 6 0 4))) hG v_6 fg_Script_37_6 rfl rfl d_Script_readFor_89 ?_
      have hP := kE _ (Option.some.inj h).symm
      exact ev_ireturn (st := []) rfl rfl d_Script_readFor_92 (by rw [hP]; exact ⟨rfl, hG, rfl⟩)
    · rw [if_neg c] at h
      refine ev_aload_n (k0 := 0) rfl d_Script_readFor_83 ?_
      refine cw_iconst 1 d_Script_readFor_84 rfl ?_
      obtain ⟨r6, hr6, h⟩ := bind_some9 h
      refine cv_U (d := d + 10) (mc1 := 0) (ms1 := 0) (mc := 0) (ms := 0) [.inl (.int 1)] hG v_6 rfl lk_Script_55_6 (w_Reader_fail_6 (d + 10) hG hr6) rfl rfl d_Script_readFor_85 (aft_rw (fun G hG => ?_))
      refine Ev.at (pc' := 88) rfl (Ev.cong (st' := []) ?_ rfl rfl)
      refine ev_aload_n (k0 := 0) rfl d_Script_readFor_88 ?_
      refine cv_get9 (.inl (.int (r6 6 0 4))) hG v_6 fg_Script_37_6 rfl rfl d_Script_readFor_89 ?_
      have hP := kE _ (Option.some.inj h).symm
      exact ev_ireturn (st := []) rfl rfl d_Script_readFor_92 (by rw [hP]; exact ⟨rfl, hG, rfl⟩)

/-- ProphecyShop$Shop.faultOfSale -/
def f_Shop_faultOfSale (j0 : Nat) (x1 : Int32) (x2 : Int32) (x3 : Int32) (x4 : Int32) (x5 : Int32) (x6 : Int32) (x7 : Int32) (μ : Mem) : Option (Int32) :=
  ((if x2 = 1 then (some (1)) else (chk (decide ((μ 9 j0 0).toNatClampNeg < 2)) (((f_Names_has (3 * ((μ 9 j0 0).toNatClampNeg) + 1) x4 μ)).bind (fun r11 => if r11 = 0 then (some (0)) else (some (1))))) : Option (Int32))).bind (fun q1 => chk (decide ((μ 9 j0 0).toNatClampNeg < 2)) (((f_Names_has (3 * ((μ 9 j0 0).toNatClampNeg) + 2) x1 μ)).bind (fun r3 => if r3 = 0 then some 1 else (chk (decide ((μ 9 j0 0).toNatClampNeg < 2)) (((f_Names_has (3 * ((μ 9 j0 0).toNatClampNeg)) x3 μ)).bind (fun r5 => if r5 = 0 then some 1 else (if q1 = 0 then some 1 else (((f_P_isWithin x5 0 99 μ)).bind (fun r6 => if r6 = 0 then some 2 else (((f_P_isWithin x6 1 60 μ)).bind (fun r7 => if r7 = 0 then some 2 else (((f_P_isWithin x7 1 999 μ)).bind (fun r8 => if r8 = 0 then some 2 else (if (24 : Int32) ≤ (μ 9 j0 5) then some 3 else (((f_Shop_coinsOf j0 x1 μ)).bind (fun r9 => if x7 ≤ r9 then some 0 else (some 3)))))))))))))))))
set_option maxRecDepth 100000 in
set_option maxHeartbeats 4000000 in
theorem w_Shop_faultOfSale {g : GL} {F G : RG} {nx : Nat} (d : Nat) {j0 : Nat} {x1 : Int32} {x2 : Int32} {x3 : Int32} {x4 : Int32} {x5 : Int32} {x6 : Int32} {x7 : Int32} {μ : Mem} (hv0 : vc 9 j0)  {o : Int32} (hG : LM vc 0 535 μ F G) (h : f_Shop_faultOfSale j0 x1 x2 x3 x4 x5 x6 x7 μ = some o) : Mt g (d + 1) m_Shop_faultOfSale [.inr (0, off 9 j0), .inl (.int x1), .inl (.int x2), .inl (.int x3), .inl (.int x4), .inl (.int x5), .inl (.int x6), .inl (.int x7)] (G, nx) 0 0 (pRO (rI o) (G, nx)) := by
  unfold f_Shop_faultOfSale at h
  have kE : ∀ v, o = v → pRO (rI o) (G, nx) = pRO (rI v) (G, nx) := fun v e => by rw [e]
  refine Mt.of9 [some (.inr (0, off 9 j0)), some (.inl (.int x1)), some (.inl (.int x2)), some (.inl (.int x3)), some (.inl (.int x4)), some (.inl (.int x5)), some (.inl (.int x6)), some (.inl (.int x7)), none] (by decide +kernel) rfl rfl rfl rfl ?_
  refine ev_iload_n (k0 := 2) rfl d_Shop_faultOfSale_0 ?_
  refine cw_iconst 1 d_Shop_faultOfSale_1 rfl ?_
  obtain ⟨q1, hj, h⟩ := bind_some9 h
  have K_q1 : Ev g (d + 1) m_Shop_faultOfSale 25 [some (.inr (0, off 9 j0)), some (.inl (.int x1)), none, some (.inl (.int x3)), none, some (.inl (.int x5)), some (.inl (.int x6)), some (.inl (.int x7)), none] [.inl (.int q1)] (G, nx) 0 0 (pRO (rI o) (G, nx)) := by
    refine cw_istoreN 8 q1 rfl [some (.inr (0, off 9 j0)), some (.inl (.int x1)), none, some (.inl (.int x3)), none, some (.inl (.int x5)), some (.inl (.int x6)), some (.inl (.int x7)), some (.inl (.int q1))] d_Shop_faultOfSale_25 rfl rfl rfl ?_
    refine ev_aload_n (k0 := 0) rfl d_Shop_faultOfSale_27 ?_
    obtain ⟨b2, h⟩ := chk_some h
    refine cv_get9 (.inr (0, off 7 ((μ 9 j0 0).toNatClampNeg))) hG hv0 fg_Shop_61_9 rfl rfl d_Shop_faultOfSale_28 ?_
    refine cv_get9 (.inr (0, off 3 (3 * ((μ 9 j0 0).toNatClampNeg) + 2))) hG (show vc 7 _ from dlt9 b2) fg_Shop_103_7 rfl rfl d_Shop_faultOfSale_31 ?_
    refine ev_iload_n (k0 := 1) rfl d_Shop_faultOfSale_34 ?_
    obtain ⟨r3, hr3, h⟩ := bind_some9 h
    refine cv_V (d := d + 0) (mc1 := 0) (ms1 := 0) (mc := 0) (ms := 0) [.inl (.int x1)] hG (tv_7_7 (show vc 7 _ from dlt9 b2)) rfl lk_Shop_98 (w_Names_has (d + 0) (tv_7_7 (show vc 7 _ from dlt9 b2)) hG hr3) rfl rfl d_Shop_faultOfSale_35 (aft_ro ?_)
    refine Ev.at (pc' := 38) rfl (Ev.cong (st' := [.inl (.int r3)]) ?_ rfl rfl)
    refine ev_if_eq (tgt := 60) (by decide) d_Shop_faultOfSale_38 (fun c => ?_) (fun c => ?_)
    · rw [if_pos c] at h
      refine cw_iconst 1 d_Shop_faultOfSale_60 rfl ?_
      have hP := kE _ (Option.some.inj h).symm
      exact ev_ireturn (st := []) rfl rfl d_Shop_faultOfSale_61 (by rw [hP]; exact ⟨rfl, rfl⟩)
    · rw [if_neg c] at h
      refine ev_aload_n (k0 := 0) rfl d_Shop_faultOfSale_41 ?_
      obtain ⟨b4, h⟩ := chk_some h
      refine cv_get9 (.inr (0, off 7 ((μ 9 j0 0).toNatClampNeg))) hG hv0 fg_Shop_61_9 rfl rfl d_Shop_faultOfSale_42 ?_
      refine cv_get9 (.inr (0, off 3 (3 * ((μ 9 j0 0).toNatClampNeg)))) hG (show vc 7 _ from dlt9 b4) fg_Shop_106_7 rfl rfl d_Shop_faultOfSale_45 ?_
      refine ev_iload_n (k0 := 3) rfl d_Shop_faultOfSale_48 ?_
      obtain ⟨r5, hr5, h⟩ := bind_some9 h
      refine cv_V (d := d + 0) (mc1 := 0) (ms1 := 0) (mc := 0) (ms := 0) [.inl (.int x3)] hG (tv_7_5 (show vc 7 _ from dlt9 b4)) rfl lk_Shop_98 (w_Names_has (d + 0) (tv_7_5 (show vc 7 _ from dlt9 b4)) hG hr5) rfl rfl d_Shop_faultOfSale_49 (aft_ro ?_)
      refine Ev.at (pc' := 52) rfl (Ev.cong (st' := [.inl (.int r5)]) ?_ rfl rfl)
      refine ev_if_eq (tgt := 60) (by decide) d_Shop_faultOfSale_52 (fun c => ?_) (fun c => ?_)
      · rw [if_pos c] at h
        refine cw_iconst 1 d_Shop_faultOfSale_60 rfl ?_
        have hP := kE _ (Option.some.inj h).symm
        exact ev_ireturn (st := []) rfl rfl d_Shop_faultOfSale_61 (by rw [hP]; exact ⟨rfl, rfl⟩)
      · rw [if_neg c] at h
        refine ev_iload (i := 8) rfl d_Shop_faultOfSale_55 ?_
        refine ev_if_ne (tgt := 62) (by decide) d_Shop_faultOfSale_57 (fun c => ?_) (fun c => ?_)
        · rw [if_neg c] at h
          refine ev_iload (i := 5) rfl d_Shop_faultOfSale_62 ?_
          refine cw_iconst 0 d_Shop_faultOfSale_64 rfl ?_
          refine cw_bipush 99 d_Shop_faultOfSale_65 rfl ?_
          obtain ⟨r6, hr6, h⟩ := bind_some9 h
          refine cw_SN (d := d + 0) (mc1 := 0) (ms1 := 0) (mc := 0) (ms := 0) [.inl (.int x5), .inl (.int 0), .inl (.int 99)] lk_Shop_109 (w_P_isWithin (d + 0) hG hr6) rfl rfl d_Shop_faultOfSale_67 (aft_ro ?_)
          refine Ev.at (pc' := 70) rfl (Ev.cong (st' := [.inl (.int r6)]) ?_ rfl rfl)
          refine ev_if_eq (tgt := 96) (by decide) d_Shop_faultOfSale_70 (fun c => ?_) (fun c => ?_)
          · rw [if_pos c] at h
            refine cw_iconst 2 d_Shop_faultOfSale_96 rfl ?_
            have hP := kE _ (Option.some.inj h).symm
            exact ev_ireturn (st := []) rfl rfl d_Shop_faultOfSale_97 (by rw [hP]; exact ⟨rfl, rfl⟩)
          · rw [if_neg c] at h
            refine ev_iload (i := 6) rfl d_Shop_faultOfSale_73 ?_
            refine cw_iconst 1 d_Shop_faultOfSale_75 rfl ?_
            refine cw_bipush 60 d_Shop_faultOfSale_76 rfl ?_
            obtain ⟨r7, hr7, h⟩ := bind_some9 h
            refine cw_SN (d := d + 0) (mc1 := 0) (ms1 := 0) (mc := 0) (ms := 0) [.inl (.int x6), .inl (.int 1), .inl (.int 60)] lk_Shop_109 (w_P_isWithin (d + 0) hG hr7) rfl rfl d_Shop_faultOfSale_78 (aft_ro ?_)
            refine Ev.at (pc' := 81) rfl (Ev.cong (st' := [.inl (.int r7)]) ?_ rfl rfl)
            refine ev_if_eq (tgt := 96) (by decide) d_Shop_faultOfSale_81 (fun c => ?_) (fun c => ?_)
            · rw [if_pos c] at h
              refine cw_iconst 2 d_Shop_faultOfSale_96 rfl ?_
              have hP := kE _ (Option.some.inj h).symm
              exact ev_ireturn (st := []) rfl rfl d_Shop_faultOfSale_97 (by rw [hP]; exact ⟨rfl, rfl⟩)
            · rw [if_neg c] at h
              refine ev_iload (i := 7) rfl d_Shop_faultOfSale_84 ?_
              refine cw_iconst 1 d_Shop_faultOfSale_86 rfl ?_
              refine cw_sipush 999 d_Shop_faultOfSale_87 rfl ?_
              obtain ⟨r8, hr8, h⟩ := bind_some9 h
              refine cw_SN (d := d + 0) (mc1 := 0) (ms1 := 0) (mc := 0) (ms := 0) [.inl (.int x7), .inl (.int 1), .inl (.int 999)] lk_Shop_109 (w_P_isWithin (d + 0) hG hr8) rfl rfl d_Shop_faultOfSale_90 (aft_ro ?_)
              refine Ev.at (pc' := 93) rfl (Ev.cong (st' := [.inl (.int r8)]) ?_ rfl rfl)
              refine ev_if_ne (tgt := 98) (by decide) d_Shop_faultOfSale_93 (fun c => ?_) (fun c => ?_)
              · rw [if_neg c] at h
                refine ev_aload_n (k0 := 0) rfl d_Shop_faultOfSale_98 ?_
                refine cv_get9 (.inl (.int (μ 9 j0 5))) hG hv0 fg_Shop_28_9 rfl rfl d_Shop_faultOfSale_99 ?_
                refine cw_bipush 24 d_Shop_faultOfSale_102 rfl ?_
                refine ev_icmp_ge (tgt := 117) (by decide) d_Shop_faultOfSale_104 (fun c => ?_) (fun c => ?_)
                · rw [if_pos c] at h
                  refine cw_iconst 3 d_Shop_faultOfSale_117 rfl ?_
                  refine ev_goto (tgt := 122) (by decide) d_Shop_faultOfSale_118 ?_
                  have hP := kE _ (Option.some.inj h).symm
                  exact ev_ireturn (st := []) rfl rfl d_Shop_faultOfSale_122 (by rw [hP]; exact ⟨rfl, rfl⟩)
                · rw [if_neg c] at h
                  refine ev_aload_n (k0 := 0) rfl d_Shop_faultOfSale_107 ?_
                  refine ev_iload_n (k0 := 1) rfl d_Shop_faultOfSale_108 ?_
                  obtain ⟨r9, hr9, h⟩ := bind_some9 h
                  refine cv_V (d := d + 0) (mc1 := 0) (ms1 := 0) (mc := 0) (ms := 0) [.inl (.int x1)] hG hv0 rfl lk_Shop_113 (w_Shop_coinsOf (d + 0) hv0 hG hr9) rfl rfl d_Shop_faultOfSale_109 (aft_ro ?_)
                  refine Ev.at (pc' := 112) rfl (Ev.cong (st' := [.inl (.int r9)]) ?_ rfl rfl)
                  refine ev_iload (i := 7) rfl d_Shop_faultOfSale_112 ?_
                  refine ev_icmp_ge (tgt := 121) (by decide) d_Shop_faultOfSale_114 (fun c => ?_) (fun c => ?_)
                  · rw [if_pos c] at h
                    refine cw_iconst 0 d_Shop_faultOfSale_121 rfl ?_
                    have hP := kE _ (Option.some.inj h).symm
                    exact ev_ireturn (st := []) rfl rfl d_Shop_faultOfSale_122 (by rw [hP]; exact ⟨rfl, rfl⟩)
                  · rw [if_neg c] at h
                    refine cw_iconst 3 d_Shop_faultOfSale_117 rfl ?_
                    refine ev_goto (tgt := 122) (by decide) d_Shop_faultOfSale_118 ?_
                    have hP := kE _ (Option.some.inj h).symm
                    exact ev_ireturn (st := []) rfl rfl d_Shop_faultOfSale_122 (by rw [hP]; exact ⟨rfl, rfl⟩)
              · rw [if_pos c] at h
                refine cw_iconst 2 d_Shop_faultOfSale_96 rfl ?_
                have hP := kE _ (Option.some.inj h).symm
                exact ev_ireturn (st := []) rfl rfl d_Shop_faultOfSale_97 (by rw [hP]; exact ⟨rfl, rfl⟩)
        · rw [if_pos c] at h
          refine cw_iconst 1 d_Shop_faultOfSale_60 rfl ?_
          have hP := kE _ (Option.some.inj h).symm
          exact ev_ireturn (st := []) rfl rfl d_Shop_faultOfSale_61 (by rw [hP]; exact ⟨rfl, rfl⟩)
  clear h
  have h := hj
  refine ev_icmp_eq (tgt := 20) (by decide) d_Shop_faultOfSale_2 (fun c => ?_) (fun c => ?_)
  · rw [if_pos c] at h
    refine cw_iconst 1 d_Shop_faultOfSale_20 rfl ?_
    refine ev_goto (tgt := 25) (by decide) d_Shop_faultOfSale_21 ?_
    obtain rfl := Option.some.inj h
    exact Ev.sub (.s (.s (.n (.s (.n (.s (.s (.s (.n LSb.z))))))))) (K_q1)
  · rw [if_neg c] at h
    refine ev_aload_n (k0 := 0) rfl d_Shop_faultOfSale_5 ?_
    obtain ⟨b10, h⟩ := chk_some h
    refine cv_get9 (.inr (0, off 7 ((μ 9 j0 0).toNatClampNeg))) hG hv0 fg_Shop_61_9 rfl rfl d_Shop_faultOfSale_6 ?_
    refine cv_get9 (.inr (0, off 3 (3 * ((μ 9 j0 0).toNatClampNeg) + 1))) hG (show vc 7 _ from dlt9 b10) fg_Shop_94_7 rfl rfl d_Shop_faultOfSale_9 ?_
    refine ev_iload (i := 4) rfl d_Shop_faultOfSale_12 ?_
    obtain ⟨r11, hr11, h⟩ := bind_some9 h
    refine cv_V (d := d + 0) (mc1 := 0) (ms1 := 0) (mc := 0) (ms := 0) [.inl (.int x4)] hG (tv_7_6 (show vc 7 _ from dlt9 b10)) rfl lk_Shop_98 (w_Names_has (d + 0) (tv_7_6 (show vc 7 _ from dlt9 b10)) hG hr11) rfl rfl d_Shop_faultOfSale_14 (aft_ro ?_)
    refine Ev.at (pc' := 17) rfl (Ev.cong (st' := [.inl (.int r11)]) ?_ rfl rfl)
    refine ev_if_eq (tgt := 24) (by decide) d_Shop_faultOfSale_17 (fun c => ?_) (fun c => ?_)
    · rw [if_pos c] at h
      refine cw_iconst 0 d_Shop_faultOfSale_24 rfl ?_
      obtain rfl := Option.some.inj h
      exact Ev.sub (.s (.s (.n (.s (.n (.s (.s (.s (.n LSb.z))))))))) (K_q1)
    · rw [if_neg c] at h
      refine cw_iconst 1 d_Shop_faultOfSale_20 rfl ?_
      refine ev_goto (tgt := 25) (by decide) d_Shop_faultOfSale_21 ?_
      obtain rfl := Option.some.inj h
      exact Ev.sub (.s (.s (.n (.s (.n (.s (.s (.s (.n LSb.z))))))))) (K_q1)

/-- ProphecyShop$Script.faultOf -/
def f_Script_faultOf (j0 : Nat) (j1 : Nat) (μ : Mem) : Option (Int32) :=
  if (μ 10 j0 0) = 0 then (((f_Shop_faultOfSale j1 (μ 10 j0 1) (μ 10 j0 2) (μ 10 j0 3) (μ 10 j0 4) (μ 10 j0 5) (μ 10 j0 6) (μ 10 j0 7) μ)).bind (fun r1 => some r1)) else (if (μ 10 j0 0) = 1 then (((f_Shop_faultOfHappening j1 (μ 10 j0 3) (μ 10 j0 4) μ)).bind (fun r2 => some r2)) else (if (μ 10 j0 0) = 2 then (((f_Shop_faultOfRequest j1 (μ 10 j0 8) μ)).bind (fun r3 => some r3)) else (((f_Shop_faultOfDays j1 (μ 10 j0 8) μ)).bind (fun r4 => some r4))))
set_option maxRecDepth 100000 in
set_option maxHeartbeats 4000000 in
theorem w_Script_faultOf {g : GL} {F G : RG} {nx : Nat} (d : Nat) {j0 : Nat} {j1 : Nat} {μ : Mem} (hv0 : vc 10 j0) (hv1 : vc 9 j1)  {o : Int32} (hG : LM vc 0 535 μ F G) (h : f_Script_faultOf j0 j1 μ = some o) : Mt g (d + 2) m_Script_faultOf [.inr (0, off 10 j0), .inr (0, off 9 j1)] (G, nx) 0 0 (pRO (rI o) (G, nx)) := by
  unfold f_Script_faultOf at h
  have kE : ∀ v, o = v → pRO (rI o) (G, nx) = pRO (rI v) (G, nx) := fun v e => by rw [e]
  refine Mt.of9 [some (.inr (0, off 10 j0)), some (.inr (0, off 9 j1))] (by decide +kernel) rfl rfl rfl rfl ?_
  refine ev_aload_n (k0 := 0) rfl d_Script_faultOf_0 ?_
  refine cv_get9 (.inl (.int (μ 10 j0 0))) hG hv0 fg_Script_106_10 rfl rfl d_Script_faultOf_1 ?_
  by_cases c0 : (μ 10 j0 0) = 0
  · rw [if_pos c0] at h
    refine ev_tabIn (tgt := 32) (off := 28) (by rw [c0]; decide) (by rw [c0]; decide) (by rw [c0]; rfl) (by decide) d_Script_faultOf_4 ?_
    refine ev_aload_n (k0 := 1) rfl d_Script_faultOf_32 ?_
    refine ev_aload_n (k0 := 0) rfl d_Script_faultOf_33 ?_
    refine cv_get9 (.inl (.int (μ 10 j0 1))) hG hv0 fg_Script_119_10 rfl rfl d_Script_faultOf_34 ?_
    refine ev_aload_n (k0 := 0) rfl d_Script_faultOf_37 ?_
    refine cv_get9 (.inl (.int (μ 10 j0 2))) hG hv0 fg_Script_126_10 rfl rfl d_Script_faultOf_38 ?_
    refine ev_aload_n (k0 := 0) rfl d_Script_faultOf_41 ?_
    refine cv_get9 (.inl (.int (μ 10 j0 3))) hG hv0 fg_Script_132_10 rfl rfl d_Script_faultOf_42 ?_
    refine ev_aload_n (k0 := 0) rfl d_Script_faultOf_45 ?_
    refine cv_get9 (.inl (.int (μ 10 j0 4))) hG hv0 fg_Script_138_10 rfl rfl d_Script_faultOf_46 ?_
    refine ev_aload_n (k0 := 0) rfl d_Script_faultOf_49 ?_
    refine cv_get9 (.inl (.int (μ 10 j0 5))) hG hv0 fg_Script_141_10 rfl rfl d_Script_faultOf_50 ?_
    refine Ev.at (pc' := 53) rfl ?_
    refine ev_aload_n (k0 := 0) rfl d_Script_faultOf_53 ?_
    refine cv_get9 (.inl (.int (μ 10 j0 6))) hG hv0 fg_Script_144_10 rfl rfl d_Script_faultOf_54 ?_
    refine ev_aload_n (k0 := 0) rfl d_Script_faultOf_57 ?_
    refine cv_get9 (.inl (.int (μ 10 j0 7))) hG hv0 fg_Script_147_10 rfl rfl d_Script_faultOf_58 ?_
    obtain ⟨r1, hr1, h⟩ := bind_some9 h
    refine cv_V (d := d + 1) (mc1 := 0) (ms1 := 0) (mc := 0) (ms := 0) [.inl (.int (μ 10 j0 1)), .inl (.int (μ 10 j0 2)), .inl (.int (μ 10 j0 3)), .inl (.int (μ 10 j0 4)), .inl (.int (μ 10 j0 5)), .inl (.int (μ 10 j0 6)), .inl (.int (μ 10 j0 7))] hG hv1 rfl lk_Script_194 (w_Shop_faultOfSale (d + 0) hv1 hG hr1) rfl rfl d_Script_faultOf_61 (aft_ro ?_)
    refine Ev.at (pc' := 64) rfl (Ev.cong (st' := [.inl (.int r1)]) ?_ rfl rfl)
    have hP := kE _ (Option.some.inj h).symm
    exact ev_ireturn (st := []) rfl rfl d_Script_faultOf_64 (by rw [hP]; exact ⟨rfl, rfl⟩)
  rw [if_neg c0] at h
  by_cases c1 : (μ 10 j0 0) = 1
  · rw [if_pos c1] at h
    refine ev_tabIn (tgt := 65) (off := 61) (by rw [c1]; decide) (by rw [c1]; decide) (by rw [c1]; rfl) (by decide) d_Script_faultOf_4 ?_
    refine ev_aload_n (k0 := 1) rfl d_Script_faultOf_65 ?_
    refine ev_aload_n (k0 := 0) rfl d_Script_faultOf_66 ?_
    refine cv_get9 (.inl (.int (μ 10 j0 3))) hG hv0 fg_Script_132_10 rfl rfl d_Script_faultOf_67 ?_
    refine ev_aload_n (k0 := 0) rfl d_Script_faultOf_70 ?_
    refine cv_get9 (.inl (.int (μ 10 j0 4))) hG hv0 fg_Script_138_10 rfl rfl d_Script_faultOf_71 ?_
    obtain ⟨r2, hr2, h⟩ := bind_some9 h
    refine cv_V (d := d + 1) (mc1 := 0) (ms1 := 0) (mc := 0) (ms := 0) [.inl (.int (μ 10 j0 3)), .inl (.int (μ 10 j0 4))] hG hv1 rfl lk_Script_197 (w_Shop_faultOfHappening (d + 0) hv1 hG hr2) rfl rfl d_Script_faultOf_74 (aft_ro ?_)
    refine Ev.at (pc' := 77) rfl (Ev.cong (st' := [.inl (.int r2)]) ?_ rfl rfl)
    have hP := kE _ (Option.some.inj h).symm
    exact ev_ireturn (st := []) rfl rfl d_Script_faultOf_77 (by rw [hP]; exact ⟨rfl, rfl⟩)
  rw [if_neg c1] at h
  by_cases c2 : (μ 10 j0 0) = 2
  · rw [if_pos c2] at h
    refine ev_tabIn (tgt := 78) (off := 74) (by rw [c2]; decide) (by rw [c2]; decide) (by rw [c2]; rfl) (by decide) d_Script_faultOf_4 ?_
    refine ev_aload_n (k0 := 1) rfl d_Script_faultOf_78 ?_
    refine ev_aload_n (k0 := 0) rfl d_Script_faultOf_79 ?_
    refine cv_get9 (.inl (.int (μ 10 j0 8))) hG hv0 fg_Script_84_10 rfl rfl d_Script_faultOf_80 ?_
    obtain ⟨r3, hr3, h⟩ := bind_some9 h
    refine cv_V (d := d + 1) (mc1 := 0) (ms1 := 0) (mc := 0) (ms := 0) [.inl (.int (μ 10 j0 8))] hG hv1 rfl lk_Script_200 (w_Shop_faultOfRequest (d + 0) hv1 hG hr3) rfl rfl d_Script_faultOf_83 (aft_ro ?_)
    refine Ev.at (pc' := 86) rfl (Ev.cong (st' := [.inl (.int r3)]) ?_ rfl rfl)
    have hP := kE _ (Option.some.inj h).symm
    exact ev_ireturn (st := []) rfl rfl d_Script_faultOf_86 (by rw [hP]; exact ⟨rfl, rfl⟩)
  rw [if_neg c2] at h
  refine ev_tabOut (tgt := 87) (tab_out (n := 2) (by decide) (fun k hk e => by rcases (show k = 0 ∨ k = 1 ∨ k = 2 by omega) with rfl | rfl | rfl <;> first | exact c0 e | exact c1 e | exact c2 e)) (by decide) d_Script_faultOf_4 ?_
  refine ev_aload_n (k0 := 1) rfl d_Script_faultOf_87 ?_
  refine ev_aload_n (k0 := 0) rfl d_Script_faultOf_88 ?_
  refine cv_get9 (.inl (.int (μ 10 j0 8))) hG hv0 fg_Script_84_10 rfl rfl d_Script_faultOf_89 ?_
  obtain ⟨r4, hr4, h⟩ := bind_some9 h
  refine cv_V (d := d + 1) (mc1 := 0) (ms1 := 0) (mc := 0) (ms := 0) [.inl (.int (μ 10 j0 8))] hG hv1 rfl lk_Script_203 (w_Shop_faultOfDays (d + 0) hv1 hG hr4) rfl rfl d_Script_faultOf_92 (aft_ro ?_)
  refine Ev.at (pc' := 95) rfl (Ev.cong (st' := [.inl (.int r4)]) ?_ rfl rfl)
  have hP := kE _ (Option.some.inj h).symm
  exact ev_ireturn (st := []) rfl rfl d_Script_faultOf_95 (by rw [hP]; exact ⟨rfl, rfl⟩)

/-- ProphecyShop$Shop.addProphecy -/
def f_Shop_addProphecy (j0 : Nat) (x1 : Int32) (x2 : Int32) (x3 : Int32) (x4 : Int32) (x5 : Int32) (x6 : Int32) (x7 : Int32) (μ : Mem) : Option (Int32 × Mem) :=
  if (μ 9 j0 5) < 24 then (chk (inb (μ 9 j0 5) 24) (nm (st3 μ 5 (24 * j0 + ((μ 9 j0 5).toNatClampNeg)) 0 x1) (fun μ2 => nm (st3 μ2 5 (24 * j0 + ((μ 9 j0 5).toNatClampNeg)) 1 x2) (fun μ3 => nm (st3 μ3 5 (24 * j0 + ((μ 9 j0 5).toNatClampNeg)) 2 x3) (fun μ4 => nm (st3 μ4 5 (24 * j0 + ((μ 9 j0 5).toNatClampNeg)) 3 x4) (fun μ5 => nm (st3 μ5 5 (24 * j0 + ((μ 9 j0 5).toNatClampNeg)) 4 ((μ5 9 j0 1) + x5)) (fun μ6 => nm (st3 μ6 5 (24 * j0 + ((μ 9 j0 5).toNatClampNeg)) 5 (((μ6 5 (24 * j0 + ((μ 9 j0 5).toNatClampNeg)) 4) + x6) - 1)) (fun μ7 => nm (st3 μ7 5 (24 * j0 + ((μ 9 j0 5).toNatClampNeg)) 6 x7) (fun μ8 => nm (st3 μ8 5 (24 * j0 + ((μ 9 j0 5).toNatClampNeg)) 7 0) (fun μ9 => nm (st3 μ9 5 (24 * j0 + ((μ 9 j0 5).toNatClampNeg)) 9 0) (fun μ10 => ((f_Shop_addCoins j0 x1 (-x7) μ10)).bind (fun r11 => nm (st3 r11 9 j0 2 ((r11 9 j0 2) + x7)) (fun μ12 => nm (st3 μ12 9 j0 5 ((μ12 9 j0 5) + 1)) (fun μ13 => some (((μ13 9 j0 5) - 1, μ13)))))))))))))))) else (some (((-1), μ)))
set_option maxRecDepth 100000 in
set_option maxHeartbeats 4000000 in
theorem w_Shop_addProphecy {g : GL} {F G : RG} {nx : Nat} (d : Nat) {j0 : Nat} {x1 : Int32} {x2 : Int32} {x3 : Int32} {x4 : Int32} {x5 : Int32} {x6 : Int32} {x7 : Int32} {μ : Mem} (hv0 : vc 9 j0)  {o : Int32 × Mem} (hG : LM vc 0 535 μ F G) (h : f_Shop_addProphecy j0 x1 x2 x3 x4 x5 x6 x7 μ = some o) : Mt g (d + 1) m_Shop_addProphecy [.inr (0, off 9 j0), .inl (.int x1), .inl (.int x2), .inl (.int x3), .inl (.int x4), .inl (.int x5), .inl (.int x6), .inl (.int x7)] (G, nx) 0 0 (pRW vc 0 535 (rI o.1) o.2 F nx) := by
  unfold f_Shop_addProphecy at h
  have kE : ∀ v, o = v → pRW vc 0 535 (rI o.1) o.2 F nx = pRW vc 0 535 (rI v.1) v.2 F nx := fun v e => by rw [e]
  refine Mt.of9 [some (.inr (0, off 9 j0)), some (.inl (.int x1)), some (.inl (.int x2)), some (.inl (.int x3)), some (.inl (.int x4)), some (.inl (.int x5)), some (.inl (.int x6)), some (.inl (.int x7)), none] (by decide +kernel) rfl rfl rfl rfl ?_
  refine ev_aload_n (k0 := 0) rfl d_Shop_addProphecy_0 ?_
  refine cv_get9 (.inl (.int (μ 9 j0 5))) hG hv0 fg_Shop_28_9 rfl rfl d_Shop_addProphecy_1 ?_
  refine cw_bipush 24 d_Shop_addProphecy_4 rfl ?_
  refine ev_icmp_lt (tgt := 11) (by decide) d_Shop_addProphecy_6 (fun c => ?_) (fun c => ?_)
  · rw [if_pos c] at h
    refine ev_aload_n (k0 := 0) rfl d_Shop_addProphecy_11 ?_
    refine cv_get9 (.inr (0, off 28 j0)) hG hv0 fg_Shop_24_9 rfl rfl d_Shop_addProphecy_12 ?_
    refine ev_aload_n (k0 := 0) rfl d_Shop_addProphecy_15 ?_
    refine cv_get9 (.inl (.int (μ 9 j0 5))) hG hv0 fg_Shop_28_9 rfl rfl d_Shop_addProphecy_16 ?_
    obtain ⟨b1, h⟩ := chk_some h
    refine cv_aald (.inr (0, off 5 (24 * j0 + ((μ 9 j0 5).toNatClampNeg)))) hG (tv_9_4 hv0) rfl rfl rfl b1 rfl d_Shop_addProphecy_19 ?_
    refine cw_astoreN 8 [some (.inr (0, off 9 j0)), some (.inl (.int x1)), some (.inl (.int x2)), some (.inl (.int x3)), some (.inl (.int x4)), some (.inl (.int x5)), some (.inl (.int x6)), some (.inl (.int x7)), some (.inr (0, off 5 (24 * j0 + ((μ 9 j0 5).toNatClampNeg))))] d_Shop_addProphecy_20 rfl rfl rfl ?_
    refine ev_aload (i := 8) rfl d_Shop_addProphecy_22 ?_
    refine ev_iload_n (k0 := 1) rfl d_Shop_addProphecy_24 ?_
    obtain ⟨μ2, e_μ2, h⟩ := nm_some h
    refine cv_put (.inl (.int x1)) x1 hG okC (ta_28 (tv_9_4 hv0) b1) fl_Shop_116_5 rfl rfl okv_int d_Shop_addProphecy_25 ?_
    intro G hG; rw [← e_μ2] at hG
    refine ev_aload (i := 8) rfl d_Shop_addProphecy_28 ?_
    refine ev_iload_n (k0 := 2) rfl d_Shop_addProphecy_30 ?_
    refine Ev.at (pc' := 31) rfl ?_
    obtain ⟨μ3, e_μ3, h⟩ := nm_some h
    refine cv_put (.inl (.int x2)) x2 hG okC (ta_28 (tv_9_4 hv0) b1) fl_Shop_119_5 rfl rfl okv_int d_Shop_addProphecy_31 ?_
    intro G hG; rw [← e_μ3] at hG
    refine ev_aload (i := 8) rfl d_Shop_addProphecy_34 ?_
    refine ev_iload_n (k0 := 3) rfl d_Shop_addProphecy_36 ?_
    obtain ⟨μ4, e_μ4, h⟩ := nm_some h
    refine cv_put (.inl (.int x3)) x3 hG okC (ta_28 (tv_9_4 hv0) b1) fl_Shop_122_5 rfl rfl okv_int d_Shop_addProphecy_37 ?_
    intro G hG; rw [← e_μ4] at hG
    refine ev_aload (i := 8) rfl d_Shop_addProphecy_40 ?_
    refine ev_iload (i := 4) rfl d_Shop_addProphecy_42 ?_
    obtain ⟨μ5, e_μ5, h⟩ := nm_some h
    refine cv_put (.inl (.int x4)) x4 hG okC (ta_28 (tv_9_4 hv0) b1) fl_Shop_125_5 rfl rfl okv_int d_Shop_addProphecy_44 ?_
    intro G hG; rw [← e_μ5] at hG
    refine ev_aload (i := 8) rfl d_Shop_addProphecy_47 ?_
    refine ev_aload_n (k0 := 0) rfl d_Shop_addProphecy_49 ?_
    refine cv_get9 (.inl (.int (μ5 9 j0 1))) hG hv0 fg_Shop_9_9 rfl rfl d_Shop_addProphecy_50 ?_
    refine ev_iload (i := 5) rfl d_Shop_addProphecy_53 ?_
    refine ev_iadd d_Shop_addProphecy_55 ?_
    refine Ev.at (pc' := 56) rfl ?_
    obtain ⟨μ6, e_μ6, h⟩ := nm_some h
    refine cv_put (.inl (.int ((μ5 9 j0 1) + x5))) ((μ5 9 j0 1) + x5) hG okC (ta_28 (tv_9_4 hv0) b1) fl_Shop_128_5 rfl rfl okv_int d_Shop_addProphecy_56 ?_
    intro G hG; rw [← e_μ6] at hG
    refine ev_aload (i := 8) rfl d_Shop_addProphecy_59 ?_
    refine ev_aload (i := 8) rfl d_Shop_addProphecy_61 ?_
    refine cv_get9 (.inl (.int (μ6 5 (24 * j0 + ((μ 9 j0 5).toNatClampNeg)) 4))) hG (ta_28 (tv_9_4 hv0) b1) fg_Shop_128_5 rfl rfl d_Shop_addProphecy_63 ?_
    refine ev_iload (i := 6) rfl d_Shop_addProphecy_66 ?_
    refine ev_iadd d_Shop_addProphecy_68 ?_
    refine cw_iconst 1 d_Shop_addProphecy_69 rfl ?_
    refine ev_isub d_Shop_addProphecy_70 ?_
    obtain ⟨μ7, e_μ7, h⟩ := nm_some h
    refine cv_put (.inl (.int (((μ6 5 (24 * j0 + ((μ 9 j0 5).toNatClampNeg)) 4) + x6) - 1))) (((μ6 5 (24 * j0 + ((μ 9 j0 5).toNatClampNeg)) 4) + x6) - 1) hG okC (ta_28 (tv_9_4 hv0) b1) fl_Shop_131_5 rfl rfl okv_int d_Shop_addProphecy_71 ?_
    intro G hG; rw [← e_μ7] at hG
    refine ev_aload (i := 8) rfl d_Shop_addProphecy_74 ?_
    refine ev_iload (i := 7) rfl d_Shop_addProphecy_76 ?_
    obtain ⟨μ8, e_μ8, h⟩ := nm_some h
    refine cv_put (.inl (.int x7)) x7 hG okC (ta_28 (tv_9_4 hv0) b1) fl_Shop_134_5 rfl rfl okv_int d_Shop_addProphecy_78 ?_
    intro G hG; rw [← e_μ8] at hG
    refine Ev.at (pc' := 81) rfl ?_
    refine ev_aload (i := 8) rfl d_Shop_addProphecy_81 ?_
    refine cw_iconst 0 d_Shop_addProphecy_83 rfl ?_
    obtain ⟨μ9, e_μ9, h⟩ := nm_some h
    refine cv_put (.inl (.int 0)) 0 hG okC (ta_28 (tv_9_4 hv0) b1) fl_Shop_137_5 rfl rfl okv_int d_Shop_addProphecy_84 ?_
    intro G hG; rw [← e_μ9] at hG
    refine ev_aload (i := 8) rfl d_Shop_addProphecy_87 ?_
    refine cw_iconst 0 d_Shop_addProphecy_89 rfl ?_
    obtain ⟨μ10, e_μ10, h⟩ := nm_some h
    refine cv_put (.inl (.int 0)) 0 hG okC (ta_28 (tv_9_4 hv0) b1) fl_Shop_140_5 rfl rfl okv_int d_Shop_addProphecy_90 ?_
    intro G hG; rw [← e_μ10] at hG
    refine ev_aload_n (k0 := 0) rfl d_Shop_addProphecy_93 ?_
    refine ev_iload_n (k0 := 1) rfl d_Shop_addProphecy_94 ?_
    refine ev_iload (i := 7) rfl d_Shop_addProphecy_95 ?_
    refine ev_ineg d_Shop_addProphecy_97 ?_
    obtain ⟨r11, hr11, h⟩ := bind_some9 h
    refine cv_V (d := d + 0) (mc1 := 0) (ms1 := 0) (mc := 0) (ms := 0) [.inl (.int x1), .inl (.int (-x7))] hG hv0 rfl lk_Shop_143 (w_Shop_addCoins (d + 0) hv0 hG hr11) rfl rfl d_Shop_addProphecy_98 (aft_rw (fun G hG => ?_))
    refine Ev.at (pc' := 101) rfl (Ev.cong (st' := []) ?_ rfl rfl)
    refine ev_aload_n (k0 := 0) rfl d_Shop_addProphecy_101 ?_
    refine ev_dup rfl d_Shop_addProphecy_102 ?_
    refine cv_get9 (.inl (.int (r11 9 j0 2))) hG hv0 fg_Shop_15_9 rfl rfl d_Shop_addProphecy_103 ?_
    refine ev_iload (i := 7) rfl d_Shop_addProphecy_106 ?_
    refine ev_iadd d_Shop_addProphecy_108 ?_
    obtain ⟨μ12, e_μ12, h⟩ := nm_some h
    refine cv_put (.inl (.int ((r11 9 j0 2) + x7))) ((r11 9 j0 2) + x7) hG okC hv0 fl_Shop_15_9 rfl rfl okv_int d_Shop_addProphecy_109 ?_
    intro G hG; rw [← e_μ12] at hG
    refine ev_aload_n (k0 := 0) rfl d_Shop_addProphecy_112 ?_
    refine ev_dup rfl d_Shop_addProphecy_113 ?_
    refine cv_get9 (.inl (.int (μ12 9 j0 5))) hG hv0 fg_Shop_28_9 rfl rfl d_Shop_addProphecy_114 ?_
    refine cw_iconst 1 d_Shop_addProphecy_117 rfl ?_
    refine ev_iadd d_Shop_addProphecy_118 ?_
    refine Ev.at (pc' := 119) rfl ?_
    obtain ⟨μ13, e_μ13, h⟩ := nm_some h
    refine cv_put (.inl (.int ((μ12 9 j0 5) + 1))) ((μ12 9 j0 5) + 1) hG okC hv0 fl_Shop_28_9 rfl rfl okv_int d_Shop_addProphecy_119 ?_
    intro G hG; rw [← e_μ13] at hG
    refine ev_aload_n (k0 := 0) rfl d_Shop_addProphecy_122 ?_
    refine cv_get9 (.inl (.int (μ13 9 j0 5))) hG hv0 fg_Shop_28_9 rfl rfl d_Shop_addProphecy_123 ?_
    refine cw_iconst 1 d_Shop_addProphecy_126 rfl ?_
    refine ev_isub d_Shop_addProphecy_127 ?_
    have hP := kE _ (Option.some.inj h).symm
    exact ev_ireturn (st := []) rfl rfl d_Shop_addProphecy_128 (by rw [hP]; exact ⟨rfl, hG, rfl⟩)
  · rw [if_neg c] at h
    refine cw_iconst (-1) d_Shop_addProphecy_9 rfl ?_
    have hP := kE _ (Option.some.inj h).symm
    exact ev_ireturn (st := []) rfl rfl d_Shop_addProphecy_10 (by rw [hP]; exact ⟨rfl, hG, rfl⟩)

/-- ProphecyShop$Script.perform -/
def f_Script_perform (j0 : Nat) (j1 : Nat) (μ : Mem) : Option (Int32 × Mem) :=
  ((f_Script_faultOf j0 j1 μ)).bind (fun r1 => if r1 = 0 then (if (μ 10 j0 0) = 0 then (((f_Shop_addProphecy j1 (μ 10 j0 1) (μ 10 j0 2) (μ 10 j0 3) (μ 10 j0 4) (μ 10 j0 5) (μ 10 j0 6) (μ 10 j0 7) μ)).bind (fun r2 => some ((1, r2.2)))) else (if (μ 10 j0 0) = 1 then (((f_Shop_noteHappening j1 (μ 10 j0 3) (μ 10 j0 4) μ)).bind (fun r3 => some ((1, r3.2)))) else (if (μ 10 j0 0) = 2 then (((f_Shop_addRequest j1 (μ 10 j0 8) μ)).bind (fun r4 => some ((1, r4.2)))) else (((f_Shop_passDays j1 (μ 10 j0 8) μ)).bind (fun r5 => some ((1, r5.2))))))) else (some ((0, μ))))
set_option maxRecDepth 100000 in
set_option maxHeartbeats 4000000 in
theorem w_Script_perform {g : GL} {F G : RG} {nx : Nat} (d : Nat) {j0 : Nat} {j1 : Nat} {μ : Mem} (hv0 : vc 10 j0) (hv1 : vc 9 j1)  {o : Int32 × Mem} (hG : LM vc 0 535 μ F G) (h : f_Script_perform j0 j1 μ = some o) : Mt g (d + 5) m_Script_perform [.inr (0, off 10 j0), .inr (0, off 9 j1)] (G, nx) 0 0 (pRW vc 0 535 (rI o.1) o.2 F nx) := by
  unfold f_Script_perform at h
  have kE : ∀ v, o = v → pRW vc 0 535 (rI o.1) o.2 F nx = pRW vc 0 535 (rI v.1) v.2 F nx := fun v e => by rw [e]
  refine Mt.of9 [some (.inr (0, off 10 j0)), some (.inr (0, off 9 j1))] (by decide +kernel) rfl rfl rfl rfl ?_
  refine ev_aload_n (k0 := 0) rfl d_Script_perform_0 ?_
  refine ev_aload_n (k0 := 1) rfl d_Script_perform_1 ?_
  obtain ⟨r1, hr1, h⟩ := bind_some9 h
  refine cw_S (d := d + 4) (mc1 := 0) (ms1 := 0) (mc := 0) (ms := 0) [.inr (0, off 10 j0), .inr (0, off 9 j1)] lk_Script_174 (w_Script_faultOf (d + 2) hv0 hv1 hG hr1) rfl rfl d_Script_perform_2 (aft_ro ?_)
  refine Ev.at (pc' := 5) rfl (Ev.cong (st' := [.inl (.int r1)]) ?_ rfl rfl)
  refine ev_if_eq (tgt := 10) (by decide) d_Script_perform_5 (fun c => ?_) (fun c => ?_)
  · rw [if_pos c] at h
    refine ev_aload_n (k0 := 0) rfl d_Script_perform_10 ?_
    refine cv_get9 (.inl (.int (μ 10 j0 0))) hG hv0 fg_Script_106_10 rfl rfl d_Script_perform_11 ?_
    by_cases c0 : (μ 10 j0 0) = 0
    · rw [if_pos c0] at h
      refine ev_tabIn (tgt := 40) (off := 26) (by rw [c0]; decide) (by rw [c0]; decide) (by rw [c0]; rfl) (by decide) d_Script_perform_14 ?_
      refine ev_aload_n (k0 := 1) rfl d_Script_perform_40 ?_
      refine ev_aload_n (k0 := 0) rfl d_Script_perform_41 ?_
      refine cv_get9 (.inl (.int (μ 10 j0 1))) hG hv0 fg_Script_119_10 rfl rfl d_Script_perform_42 ?_
      refine ev_aload_n (k0 := 0) rfl d_Script_perform_45 ?_
      refine cv_get9 (.inl (.int (μ 10 j0 2))) hG hv0 fg_Script_126_10 rfl rfl d_Script_perform_46 ?_
      refine ev_aload_n (k0 := 0) rfl d_Script_perform_49 ?_
      refine cv_get9 (.inl (.int (μ 10 j0 3))) hG hv0 fg_Script_132_10 rfl rfl d_Script_perform_50 ?_
      refine ev_aload_n (k0 := 0) rfl d_Script_perform_53 ?_
      refine cv_get9 (.inl (.int (μ 10 j0 4))) hG hv0 fg_Script_138_10 rfl rfl d_Script_perform_54 ?_
      refine ev_aload_n (k0 := 0) rfl d_Script_perform_57 ?_
      refine cv_get9 (.inl (.int (μ 10 j0 5))) hG hv0 fg_Script_141_10 rfl rfl d_Script_perform_58 ?_
      refine Ev.at (pc' := 61) rfl ?_
      refine ev_aload_n (k0 := 0) rfl d_Script_perform_61 ?_
      refine cv_get9 (.inl (.int (μ 10 j0 6))) hG hv0 fg_Script_144_10 rfl rfl d_Script_perform_62 ?_
      refine ev_aload_n (k0 := 0) rfl d_Script_perform_65 ?_
      refine cv_get9 (.inl (.int (μ 10 j0 7))) hG hv0 fg_Script_147_10 rfl rfl d_Script_perform_66 ?_
      obtain ⟨r2, hr2, h⟩ := bind_some9 h
      refine cv_V (d := d + 4) (mc1 := 0) (ms1 := 0) (mc := 0) (ms := 0) [.inl (.int (μ 10 j0 1)), .inl (.int (μ 10 j0 2)), .inl (.int (μ 10 j0 3)), .inl (.int (μ 10 j0 4)), .inl (.int (μ 10 j0 5)), .inl (.int (μ 10 j0 6)), .inl (.int (μ 10 j0 7))] hG hv1 rfl lk_Script_178 (w_Shop_addProphecy (d + 3) hv1 hG hr2) rfl rfl d_Script_perform_69 (aft_rw (fun G hG => ?_))
      refine Ev.at (pc' := 72) rfl (Ev.cong (st' := [.inl (.int r2.1)]) ?_ rfl rfl)
      refine ev_pop rfl d_Script_perform_72 ?_
      refine ev_goto (tgt := 113) (by decide) d_Script_perform_73 ?_
      refine cw_iconst 1 d_Script_perform_113 rfl ?_
      have hP := kE _ (Option.some.inj h).symm
      exact ev_ireturn (st := []) rfl rfl d_Script_perform_114 (by rw [hP]; exact ⟨rfl, hG, rfl⟩)
    rw [if_neg c0] at h
    by_cases c1 : (μ 10 j0 0) = 1
    · rw [if_pos c1] at h
      refine ev_tabIn (tgt := 76) (off := 62) (by rw [c1]; decide) (by rw [c1]; decide) (by rw [c1]; rfl) (by decide) d_Script_perform_14 ?_
      refine ev_aload_n (k0 := 1) rfl d_Script_perform_76 ?_
      refine ev_aload_n (k0 := 0) rfl d_Script_perform_77 ?_
      refine cv_get9 (.inl (.int (μ 10 j0 3))) hG hv0 fg_Script_132_10 rfl rfl d_Script_perform_78 ?_
      refine ev_aload_n (k0 := 0) rfl d_Script_perform_81 ?_
      refine cv_get9 (.inl (.int (μ 10 j0 4))) hG hv0 fg_Script_138_10 rfl rfl d_Script_perform_82 ?_
      obtain ⟨r3, hr3, h⟩ := bind_some9 h
      refine cv_V (d := d + 4) (mc1 := 0) (ms1 := 0) (mc := 0) (ms := 0) [.inl (.int (μ 10 j0 3)), .inl (.int (μ 10 j0 4))] hG hv1 rfl lk_Script_184 (w_Shop_noteHappening (d + 3) hv1 hG hr3) rfl rfl d_Script_perform_85 (aft_rw (fun G hG => ?_))
      refine Ev.at (pc' := 88) rfl (Ev.cong (st' := [.inl (.int r3.1)]) ?_ rfl rfl)
      refine ev_pop rfl d_Script_perform_88 ?_
      refine ev_goto (tgt := 113) (by decide) d_Script_perform_89 ?_
      refine cw_iconst 1 d_Script_perform_113 rfl ?_
      have hP := kE _ (Option.some.inj h).symm
      exact ev_ireturn (st := []) rfl rfl d_Script_perform_114 (by rw [hP]; exact ⟨rfl, hG, rfl⟩)
    rw [if_neg c1] at h
    by_cases c2 : (μ 10 j0 0) = 2
    · rw [if_pos c2] at h
      refine ev_tabIn (tgt := 92) (off := 78) (by rw [c2]; decide) (by rw [c2]; decide) (by rw [c2]; rfl) (by decide) d_Script_perform_14 ?_
      refine ev_aload_n (k0 := 1) rfl d_Script_perform_92 ?_
      refine ev_aload_n (k0 := 0) rfl d_Script_perform_93 ?_
      refine cv_get9 (.inl (.int (μ 10 j0 8))) hG hv0 fg_Script_84_10 rfl rfl d_Script_perform_94 ?_
      obtain ⟨r4, hr4, h⟩ := bind_some9 h
      refine cv_V (d := d + 4) (mc1 := 0) (ms1 := 0) (mc := 0) (ms := 0) [.inl (.int (μ 10 j0 8))] hG hv1 rfl lk_Script_187 (w_Shop_addRequest (d + 4) hv1 hG hr4) rfl rfl d_Script_perform_97 (aft_rw (fun G hG => ?_))
      refine Ev.at (pc' := 100) rfl (Ev.cong (st' := [.inl (.int r4.1)]) ?_ rfl rfl)
      refine ev_pop rfl d_Script_perform_100 ?_
      refine ev_goto (tgt := 113) (by decide) d_Script_perform_101 ?_
      refine cw_iconst 1 d_Script_perform_113 rfl ?_
      have hP := kE _ (Option.some.inj h).symm
      exact ev_ireturn (st := []) rfl rfl d_Script_perform_114 (by rw [hP]; exact ⟨rfl, hG, rfl⟩)
    rw [if_neg c2] at h
    refine ev_tabOut (tgt := 104) (tab_out (n := 2) (by decide) (fun k hk e => by rcases (show k = 0 ∨ k = 1 ∨ k = 2 by omega) with rfl | rfl | rfl <;> first | exact c0 e | exact c1 e | exact c2 e)) (by decide) d_Script_perform_14 ?_
    refine ev_aload_n (k0 := 1) rfl d_Script_perform_104 ?_
    refine ev_aload_n (k0 := 0) rfl d_Script_perform_105 ?_
    refine cv_get9 (.inl (.int (μ 10 j0 8))) hG hv0 fg_Script_84_10 rfl rfl d_Script_perform_106 ?_
    obtain ⟨r5, hr5, h⟩ := bind_some9 h
    refine cv_V (d := d + 4) (mc1 := 0) (ms1 := 0) (mc := 0) (ms := 0) [.inl (.int (μ 10 j0 8))] hG hv1 rfl lk_Script_191 (w_Shop_passDays (d + 0) hv1 hG hr5) rfl rfl d_Script_perform_109 (aft_rw (fun G hG => ?_))
    refine Ev.at (pc' := 112) rfl (Ev.cong (st' := [.inl (.int r5.1)]) ?_ rfl rfl)
    refine ev_pop rfl d_Script_perform_112 ?_
    refine cw_iconst 1 d_Script_perform_113 rfl ?_
    have hP := kE _ (Option.some.inj h).symm
    exact ev_ireturn (st := []) rfl rfl d_Script_perform_114 (by rw [hP]; exact ⟨rfl, hG, rfl⟩)
  · rw [if_neg c] at h
    refine cw_iconst 0 d_Script_perform_8 rfl ?_
    have hP := kE _ (Option.some.inj h).symm
    exact ev_ireturn (st := []) rfl rfl d_Script_perform_9 (by rw [hP]; exact ⟨rfl, hG, rfl⟩)

/-- ProphecyShop$Script.execute -/
def s_Script_execute_7 (j1 : Nat) (x2 : Int32) (x3 : Int32) (x4 : Int32) (μ : Mem) : Option ((Int32 × Int32 × Int32 × Mem) ⊕ ((Int32 × Mem) ⊕ (Int32 × Mem))) :=
  if (1000000 : Int32) ≤ x4 then (some (.inr (.inl ((x2, μ))))) else (if (μ 6 0 7) ≤ x3 then (some (.inr (.inl ((x2, μ))))) else (if (40 : Int32) ≤ x2 then (some (.inr (.inl ((x2, μ))))) else (((f_Script_stepAt x3 μ)).bind (fun r1 => chk (decide (r1 < 60)) (if (μ 10 r1 0) = 4 then (nm (st3 μ 10 r1 10 (μ 10 r1 8)) (fun μ9 => if (μ9 10 r1 8) ≤ 0 then (nm ((μ9 10 r1 9) + 1 : Int32) (fun v10 => some (.inl ((x2, v10, x4 + 1, μ9))))) else (nm (x3 + 1 : Int32) (fun v11 => some (.inl ((x2, v11, x4 + 1, μ9))))))) else (if (μ 10 r1 0) = 5 then (((f_Script_stepAt (μ 10 r1 9) μ)).bind (fun r4 => chk (decide (r4 < 60)) (nm (st3 μ 10 r4 10 ((μ 10 r4 10) - 1)) (fun μ6 => if (μ6 10 r4 10) ≤ 0 then (nm (x3 + 1 : Int32) (fun v7 => some (.inl ((x2, v7, x4 + 1, μ6))))) else (nm ((μ6 10 r1 9) + 1 : Int32) (fun v8 => some (.inl ((x2, v8, x4 + 1, μ6))))))))) else (((f_Script_perform r1 j1 μ)).bind (fun r3 => if r3.1 = 0 then (some (.inr (.inr ((x2, r3.2))))) else (some (.inl ((x2 + 1, x3 + 1, x4 + 1, r3.2))))))))))))
def f_Script_execute (j1 : Nat) (μ : Mem) : Option (Int32 × Mem) :=
  (it (fun (s : Int32 × Int32 × Int32 × Mem) => s_Script_execute_7 j1 s.1 s.2.1 s.2.2.1 s.2.2.2) LIM ((0, 0, 0, μ))).bind (fun q1 => els q1 (fun r2 => some ((r2.1, r2.2))) (fun v => some v))
set_option maxRecDepth 100000 in
set_option maxHeartbeats 4000000 in
theorem ws_Script_execute_7 {g : GL} {F G : RG} {nx mc ms : Nat} {Post : RO → RM → Prop} (d : Nat) {j1 : Nat} {x2 : Int32} {x3 : Int32} {x4 : Int32} {μ : Mem} (hv1 : vc 9 j1)  {o : (Int32 × Int32 × Int32 × Mem) ⊕ ((Int32 × Mem) ⊕ (Int32 × Mem))} (hG : LM vc 0 535 μ F G) (h : s_Script_execute_7 j1 x2 x3 x4 μ = some o)
    (kC : ∀ s', o = .inl s' → ∀ G, LM vc 0 535 s'.2.2.2 F G → Ev g (d + 6) m_Script_execute 7 [some (.inr (0, off 6 0)), some (.inr (0, off 9 j1)), some (.inl (.int s'.1)), some (.inl (.int s'.2.1)), some (.inl (.int s'.2.2.1)), none, none] [] (G, nx) mc ms Post)
    (kX : ∀ r, o = .inr (.inl r) → ∀ G, LM vc 0 535 r.2 F G → Ev g (d + 6) m_Script_execute 161 [none, none, some (.inl (.int r.1)), none, none, none, none] [] (G, nx) mc ms Post)
    (kE : ∀ v, o = .inr (.inr v) → Post = pRW vc 0 535 (rI v.1) v.2 F nx) : Ev g (d + 6) m_Script_execute 7 [some (.inr (0, off 6 0)), some (.inr (0, off 9 j1)), some (.inl (.int x2)), some (.inl (.int x3)), some (.inl (.int x4)), none, none] [] (G, nx) mc ms Post := by
  unfold s_Script_execute_7 at h
  refine ev_iload (i := 4) rfl d_Script_execute_7 ?_
  refine ev_ldc (v := 1000000) wg_799 d_Script_execute_9 ?_
  refine ev_icmp_ge (tgt := 161) (by decide) d_Script_execute_11 (fun c => ?_) (fun c => ?_)
  · rw [if_pos c] at h
    exact Ev.sub (.n (.n (.s (.n (.n (.n (.n LSb.z))))))) (kX _ (Option.some.inj h).symm G hG)
  · rw [if_neg c] at h
    refine ev_iload_n (k0 := 3) rfl d_Script_execute_14 ?_
    refine ev_aload_n (k0 := 0) rfl d_Script_execute_15 ?_
    refine cv_get9 (.inl (.int (μ 6 0 7))) hG v_6 fg_Script_17_6 rfl rfl d_Script_execute_16 ?_
    refine ev_icmp_ge (tgt := 161) (by decide) d_Script_execute_19 (fun c => ?_) (fun c => ?_)
    · rw [if_pos c] at h
      exact Ev.sub (.n (.n (.s (.n (.n (.n (.n LSb.z))))))) (kX _ (Option.some.inj h).symm G hG)
    · rw [if_neg c] at h
      refine ev_iload_n (k0 := 2) rfl d_Script_execute_22 ?_
      refine cw_bipush 40 d_Script_execute_23 rfl ?_
      refine ev_icmp_ge (tgt := 161) (by decide) d_Script_execute_25 (fun c => ?_) (fun c => ?_)
      · rw [if_pos c] at h
        exact Ev.sub (.n (.n (.s (.n (.n (.n (.n LSb.z))))))) (kX _ (Option.some.inj h).symm G hG)
      · rw [if_neg c] at h
        refine ev_aload_n (k0 := 0) rfl d_Script_execute_28 ?_
        refine ev_iload_n (k0 := 3) rfl d_Script_execute_29 ?_
        obtain ⟨r1, hr1, h⟩ := bind_some9 h
        refine Ev.z9 ?_
        refine cv_V (d := d + 5) (mc1 := 0) (ms1 := 0) (mc := mc) (ms := ms) [.inl (.int x3)] hG v_6 rfl lk_Script_163 (w_Script_stepAt (d + 5) hG hr1) rfl rfl d_Script_execute_30 (aft_ro ?_)
        obtain ⟨b2, h⟩ := chk_some h
        refine Ev.at (pc' := 33) rfl (Ev.cong (st' := [.inr (0, off 10 r1)]) ?_ rfl rfl)
        refine cw_astoreN 5 [some (.inr (0, off 6 0)), some (.inr (0, off 9 j1)), some (.inl (.int x2)), some (.inl (.int x3)), some (.inl (.int x4)), some (.inr (0, off 10 r1)), none] d_Script_execute_33 rfl rfl rfl ?_
        refine ev_aload (i := 5) rfl d_Script_execute_35 ?_
        refine cv_get9 (.inl (.int (μ 10 r1 0))) hG (show vc 10 _ from dlt9 b2) fg_Script_106_10 rfl rfl d_Script_execute_37 ?_
        refine cw_iconst 4 d_Script_execute_40 rfl ?_
        refine ev_icmp_ne (tgt := 79) (by decide) d_Script_execute_41 (fun c => ?_) (fun c => ?_)
        · rw [if_neg c] at h
          refine ev_aload (i := 5) rfl d_Script_execute_79 ?_
          refine cv_get9 (.inl (.int (μ 10 r1 0))) hG (show vc 10 _ from dlt9 b2) fg_Script_106_10 rfl rfl d_Script_execute_81 ?_
          refine cw_iconst 5 d_Script_execute_84 rfl ?_
          refine ev_icmp_ne (tgt := 135) (by decide) d_Script_execute_85 (fun c => ?_) (fun c => ?_)
          · rw [if_neg c] at h
            refine ev_aload (i := 5) rfl d_Script_execute_135 ?_
            refine ev_aload_n (k0 := 1) rfl d_Script_execute_137 ?_
            obtain ⟨r3, hr3, h⟩ := bind_some9 h
            refine Ev.z9 ?_
            refine cw_S (d := d + 5) (mc1 := 0) (ms1 := 0) (mc := mc) (ms := ms) [.inr (0, off 10 r1), .inr (0, off 9 j1)] lk_Script_170 (w_Script_perform (d + 0) (show vc 10 _ from dlt9 b2) hv1 hG hr3) rfl rfl d_Script_execute_138 (aft_rw (fun G hG => ?_))
            refine Ev.at (pc' := 141) rfl (Ev.cong (st' := [.inl (.int r3.1)]) ?_ rfl rfl)
            refine ev_if_eq (tgt := 153) (by decide) d_Script_execute_141 (fun c => ?_) (fun c => ?_)
            · rw [if_pos c] at h
              refine ev_iload_n (k0 := 2) rfl d_Script_execute_153 ?_
              have hP := kE _ (Option.some.inj h).symm
              exact ev_ireturn (st := []) rfl rfl d_Script_execute_154 (by rw [hP]; exact ⟨rfl, hG, rfl⟩)
            · rw [if_neg c] at h
              refine cw_iincN 2 1 [some (.inr (0, off 6 0)), some (.inr (0, off 9 j1)), some (.inl (.int (x2 + 1))), some (.inl (.int x3)), some (.inl (.int x4)), some (.inr (0, off 10 r1)), none] d_Script_execute_144 rfl rfl rfl rfl rfl ?_
              refine cw_iincN 3 1 [some (.inr (0, off 6 0)), some (.inr (0, off 9 j1)), some (.inl (.int (x2 + 1))), some (.inl (.int (x3 + 1))), some (.inl (.int x4)), some (.inr (0, off 10 r1)), none] d_Script_execute_147 rfl rfl rfl rfl rfl ?_
              refine ev_goto (tgt := 155) (by decide) d_Script_execute_150 ?_
              refine cw_iincN 4 1 [some (.inr (0, off 6 0)), some (.inr (0, off 9 j1)), some (.inl (.int (x2 + 1))), some (.inl (.int (x3 + 1))), some (.inl (.int (x4 + 1))), some (.inr (0, off 10 r1)), none] d_Script_execute_155 rfl rfl rfl rfl rfl ?_
              refine ev_goto (tgt := 7) (by decide) d_Script_execute_158 ?_
              exact Ev.sub (.s (.s (.s (.s (.s (.n (.n LSb.z))))))) (kC _ (Option.some.inj h).symm G hG)
          · rw [if_pos c] at h
            refine ev_aload_n (k0 := 0) rfl d_Script_execute_88 ?_
            refine ev_aload (i := 5) rfl d_Script_execute_89 ?_
            refine cv_get9 (.inl (.int (μ 10 r1 9))) hG (show vc 10 _ from dlt9 b2) fg_Script_160_10 rfl rfl d_Script_execute_91 ?_
            obtain ⟨r4, hr4, h⟩ := bind_some9 h
            refine Ev.z9 ?_
            refine cv_V (d := d + 5) (mc1 := 0) (ms1 := 0) (mc := mc) (ms := ms) [.inl (.int (μ 10 r1 9))] hG v_6 rfl lk_Script_163 (w_Script_stepAt (d + 5) hG hr4) rfl rfl d_Script_execute_94 (aft_ro ?_)
            obtain ⟨b5, h⟩ := chk_some h
            refine Ev.at (pc' := 97) rfl (Ev.cong (st' := [.inr (0, off 10 r4)]) ?_ rfl rfl)
            refine cw_astoreN 6 [some (.inr (0, off 6 0)), some (.inr (0, off 9 j1)), some (.inl (.int x2)), some (.inl (.int x3)), some (.inl (.int x4)), some (.inr (0, off 10 r1)), some (.inr (0, off 10 r4))] d_Script_execute_97 rfl rfl rfl ?_
            refine ev_aload (i := 6) rfl d_Script_execute_99 ?_
            refine ev_dup rfl d_Script_execute_101 ?_
            refine cv_get9 (.inl (.int (μ 10 r4 10))) hG (show vc 10 _ from dlt9 b5) fg_Script_167_10 rfl rfl d_Script_execute_102 ?_
            refine cw_iconst 1 d_Script_execute_105 rfl ?_
            refine ev_isub d_Script_execute_106 ?_
            obtain ⟨μ6, e_μ6, h⟩ := nm_some h
            refine cv_put (.inl (.int ((μ 10 r4 10) - 1))) ((μ 10 r4 10) - 1) hG okC (show vc 10 _ from dlt9 b5) fl_Script_167_10 rfl rfl okv_int d_Script_execute_107 ?_
            intro G hG; rw [← e_μ6] at hG
            refine ev_aload (i := 6) rfl d_Script_execute_110 ?_
            refine cv_get9 (.inl (.int (μ6 10 r4 10))) hG (show vc 10 _ from dlt9 b5) fg_Script_167_10 rfl rfl d_Script_execute_112 ?_
            refine ev_if_le (tgt := 128) (by decide) d_Script_execute_115 (fun c => ?_) (fun c => ?_)
            · rw [if_pos c] at h
              refine ev_iload_n (k0 := 3) rfl d_Script_execute_128 ?_
              refine cw_iconst 1 d_Script_execute_129 rfl ?_
              refine ev_iadd d_Script_execute_130 ?_
              obtain ⟨v7, e_v7, h⟩ := nm_some h
              refine cw_istoreN_n 3 v7 e_v7 [some (.inr (0, off 6 0)), some (.inr (0, off 9 j1)), some (.inl (.int x2)), some (.inl (.int v7)), some (.inl (.int x4)), some (.inr (0, off 10 r1)), some (.inr (0, off 10 r4))] d_Script_execute_131 rfl rfl rfl ?_
              refine ev_goto (tgt := 155) (by decide) d_Script_execute_132 ?_
              refine cw_iincN 4 1 [some (.inr (0, off 6 0)), some (.inr (0, off 9 j1)), some (.inl (.int x2)), some (.inl (.int v7)), some (.inl (.int (x4 + 1))), some (.inr (0, off 10 r1)), some (.inr (0, off 10 r4))] d_Script_execute_155 rfl rfl rfl rfl rfl ?_
              refine ev_goto (tgt := 7) (by decide) d_Script_execute_158 ?_
              exact Ev.sub (.s (.s (.s (.s (.s (.n (.n LSb.z))))))) (kC _ (Option.some.inj h).symm G hG)
            · rw [if_neg c] at h
              refine ev_aload (i := 5) rfl d_Script_execute_118 ?_
              refine cv_get9 (.inl (.int (μ6 10 r1 9))) hG (show vc 10 _ from dlt9 b2) fg_Script_160_10 rfl rfl d_Script_execute_120 ?_
              refine cw_iconst 1 d_Script_execute_123 rfl ?_
              refine ev_iadd d_Script_execute_124 ?_
              refine ev_goto (tgt := 131) (by decide) d_Script_execute_125 ?_
              obtain ⟨v8, e_v8, h⟩ := nm_some h
              refine cw_istoreN_n 3 v8 e_v8 [some (.inr (0, off 6 0)), some (.inr (0, off 9 j1)), some (.inl (.int x2)), some (.inl (.int v8)), some (.inl (.int x4)), some (.inr (0, off 10 r1)), some (.inr (0, off 10 r4))] d_Script_execute_131 rfl rfl rfl ?_
              refine ev_goto (tgt := 155) (by decide) d_Script_execute_132 ?_
              refine cw_iincN 4 1 [some (.inr (0, off 6 0)), some (.inr (0, off 9 j1)), some (.inl (.int x2)), some (.inl (.int v8)), some (.inl (.int (x4 + 1))), some (.inr (0, off 10 r1)), some (.inr (0, off 10 r4))] d_Script_execute_155 rfl rfl rfl rfl rfl ?_
              refine ev_goto (tgt := 7) (by decide) d_Script_execute_158 ?_
              exact Ev.sub (.s (.s (.s (.s (.s (.n (.n LSb.z))))))) (kC _ (Option.some.inj h).symm G hG)
        · rw [if_pos c] at h
          refine ev_aload (i := 5) rfl d_Script_execute_44 ?_
          refine ev_aload (i := 5) rfl d_Script_execute_46 ?_
          refine cv_get9 (.inl (.int (μ 10 r1 8))) hG (show vc 10 _ from dlt9 b2) fg_Script_84_10 rfl rfl d_Script_execute_48 ?_
          obtain ⟨μ9, e_μ9, h⟩ := nm_some h
          refine cv_put (.inl (.int (μ 10 r1 8))) (μ 10 r1 8) hG okC (show vc 10 _ from dlt9 b2) fl_Script_167_10 rfl rfl okv_int d_Script_execute_51 ?_
          intro G hG; rw [← e_μ9] at hG
          refine ev_aload (i := 5) rfl d_Script_execute_54 ?_
          refine cv_get9 (.inl (.int (μ9 10 r1 8))) hG (show vc 10 _ from dlt9 b2) fg_Script_84_10 rfl rfl d_Script_execute_56 ?_
          refine ev_if_le (tgt := 68) (by decide) d_Script_execute_59 (fun c => ?_) (fun c => ?_)
          · rw [if_pos c] at h
            refine ev_aload (i := 5) rfl d_Script_execute_68 ?_
            refine cv_get9 (.inl (.int (μ9 10 r1 9))) hG (show vc 10 _ from dlt9 b2) fg_Script_160_10 rfl rfl d_Script_execute_70 ?_
            refine cw_iconst 1 d_Script_execute_73 rfl ?_
            refine ev_iadd d_Script_execute_74 ?_
            obtain ⟨v10, e_v10, h⟩ := nm_some h
            refine cw_istoreN_n 3 v10 e_v10 [some (.inr (0, off 6 0)), some (.inr (0, off 9 j1)), some (.inl (.int x2)), some (.inl (.int v10)), some (.inl (.int x4)), some (.inr (0, off 10 r1)), none] d_Script_execute_75 rfl rfl rfl ?_
            refine ev_goto (tgt := 155) (by decide) d_Script_execute_76 ?_
            refine cw_iincN 4 1 [some (.inr (0, off 6 0)), some (.inr (0, off 9 j1)), some (.inl (.int x2)), some (.inl (.int v10)), some (.inl (.int (x4 + 1))), some (.inr (0, off 10 r1)), none] d_Script_execute_155 rfl rfl rfl rfl rfl ?_
            refine ev_goto (tgt := 7) (by decide) d_Script_execute_158 ?_
            exact Ev.sub (.s (.s (.s (.s (.s (.n (.n LSb.z))))))) (kC _ (Option.some.inj h).symm G hG)
          · rw [if_neg c] at h
            refine ev_iload_n (k0 := 3) rfl d_Script_execute_62 ?_
            refine cw_iconst 1 d_Script_execute_63 rfl ?_
            refine ev_iadd d_Script_execute_64 ?_
            refine ev_goto (tgt := 75) (by decide) d_Script_execute_65 ?_
            obtain ⟨v11, e_v11, h⟩ := nm_some h
            refine cw_istoreN_n 3 v11 e_v11 [some (.inr (0, off 6 0)), some (.inr (0, off 9 j1)), some (.inl (.int x2)), some (.inl (.int v11)), some (.inl (.int x4)), some (.inr (0, off 10 r1)), none] d_Script_execute_75 rfl rfl rfl ?_
            refine ev_goto (tgt := 155) (by decide) d_Script_execute_76 ?_
            refine cw_iincN 4 1 [some (.inr (0, off 6 0)), some (.inr (0, off 9 j1)), some (.inl (.int x2)), some (.inl (.int v11)), some (.inl (.int (x4 + 1))), some (.inr (0, off 10 r1)), none] d_Script_execute_155 rfl rfl rfl rfl rfl ?_
            refine ev_goto (tgt := 7) (by decide) d_Script_execute_158 ?_
            exact Ev.sub (.s (.s (.s (.s (.s (.n (.n LSb.z))))))) (kC _ (Option.some.inj h).symm G hG)
set_option maxRecDepth 100000 in
set_option maxHeartbeats 4000000 in
theorem w_Script_execute {g : GL} {F G : RG} {nx : Nat} (d : Nat) {j1 : Nat} {μ : Mem} (hv1 : vc 9 j1)  {o : Int32 × Mem} (hG : LM vc 0 535 μ F G) (h : f_Script_execute j1 μ = some o) : Mt g (d + 6) m_Script_execute [.inr (0, off 6 0), .inr (0, off 9 j1)] (G, nx) 0 0 (pRW vc 0 535 (rI o.1) o.2 F nx) := by
  unfold f_Script_execute at h
  have kE : ∀ v, o = v → pRW vc 0 535 (rI o.1) o.2 F nx = pRW vc 0 535 (rI v.1) v.2 F nx := fun v e => by rw [e]
  refine Mt.of9 [some (.inr (0, off 6 0)), some (.inr (0, off 9 j1)), none, none, none, none, none] (by decide +kernel) rfl rfl rfl rfl ?_
  refine cw_iconst 0 d_Script_execute_0 rfl ?_
  refine cw_istoreN_n 2 0 rfl [some (.inr (0, off 6 0)), some (.inr (0, off 9 j1)), some (.inl (.int 0)), none, none, none, none] d_Script_execute_1 rfl rfl rfl ?_
  refine cw_iconst 0 d_Script_execute_2 rfl ?_
  refine cw_istoreN_n 3 0 rfl [some (.inr (0, off 6 0)), some (.inr (0, off 9 j1)), some (.inl (.int 0)), some (.inl (.int 0)), none, none, none] d_Script_execute_3 rfl rfl rfl ?_
  refine cw_iconst 0 d_Script_execute_4 rfl ?_
  refine cw_istoreN 4 0 rfl [some (.inr (0, off 6 0)), some (.inr (0, off 9 j1)), some (.inl (.int 0)), some (.inl (.int 0)), some (.inl (.int 0)), none, none] d_Script_execute_5 rfl rfl rfl ?_
  obtain ⟨q1, hl, h⟩ := bind_some9 h
  refine it_ev (W := fun (s : Int32 × Int32 × Int32 × Mem) => ∀ G, LM vc 0 535 s.2.2.2 F G → Ev g (d + 6) m_Script_execute 7 [some (.inr (0, off 6 0)), some (.inr (0, off 9 j1)), some (.inl (.int s.1)), some (.inl (.int s.2.1)), some (.inl (.int s.2.2.1)), none, none] [] (G, nx) 0 0 (pRW vc 0 535 (rI o.1) o.2 F nx)) (X := fun z => z = q1) rfl (fun s9 o9 hs kC9 kX9 => ?_) LIM _ hl G hG
  intro G hG
  refine ws_Script_execute_7 d hv1 hG hs kC9 (fun r2 e G hG => ?_) (fun v e => ?_)
  · obtain rfl := kX9 _ e
    rw [els_l] at h
    refine ev_iload_n (k0 := 2) rfl d_Script_execute_161 ?_
    have hP := kE _ (Option.some.inj h).symm
    exact ev_ireturn (st := []) rfl rfl d_Script_execute_162 (by rw [hP]; exact ⟨rfl, hG, rfl⟩)
  · obtain rfl := kX9 _ e
    rw [els_r] at h
    exact kE _ (Option.some.inj h).symm

/-- ProphecyShop.runScript -/
def f_P_runScript  (μ : Mem) : Option (Int32 × Mem) :=
  chk (decide ((μ 12 0 3).toNatClampNeg < 2)) (((f_Script_readFor ((μ 12 0 3).toNatClampNeg) μ)).bind (fun r2 => nm (st3 r2.2 12 0 10 r2.1) (fun μ3 => nm (st3 μ3 12 0 11 (μ3 6 0 5)) (fun μ4 => ((f_Text_shortenTo 0 μ4)).bind (fun r5 => if r2.1 = 0 then (((f_History_record 0 r5)).bind (fun r6 => ((f_Script_execute 0 r6)).bind (fun r7 => some ((r7.1, r7.2))))) else (some (((-1), r5))))))))
set_option maxRecDepth 100000 in
set_option maxHeartbeats 4000000 in
theorem w_P_runScript {g : GL} {F G : RG} {nx : Nat} (d : Nat)  {μ : Mem}  (hSG : SG g) {o : Int32 × Mem} (hG : LM vc 0 535 μ F G) (h : f_P_runScript  μ = some o) : Mt g (d + 12) m_P_runScript [.inr (0, off 12 0)] (G, nx) 0 0 (pRW vc 0 535 (rI o.1) o.2 F nx) := by
  unfold f_P_runScript at h
  have kE : ∀ v, o = v → pRW vc 0 535 (rI o.1) o.2 F nx = pRW vc 0 535 (rI v.1) v.2 F nx := fun v e => by rw [e]
  refine Mt.of9 [some (.inr (0, off 12 0)), none] (by decide +kernel) rfl rfl rfl rfl ?_
  refine ev_aload_n (k0 := 0) rfl d_P_runScript_0 ?_
  refine cv_get9 (.inr (0, off 6 0)) hG v_12 fg_ProphecyShop_28_12 rfl rfl d_P_runScript_1 ?_
  refine ev_aload_n (k0 := 0) rfl d_P_runScript_4 ?_
  obtain ⟨b1, h⟩ := chk_some h
  refine cv_get9 (.inr (0, off 7 ((μ 12 0 3).toNatClampNeg))) hG v_12 fg_ProphecyShop_35_12 rfl rfl d_P_runScript_5 ?_
  obtain ⟨r2, hr2, h⟩ := bind_some9 h
  refine cv_V (d := d + 11) (mc1 := 0) (ms1 := 0) (mc := 0) (ms := 0) [.inr (0, off 7 ((μ 12 0 3).toNatClampNeg))] hG v_6 rfl lk_ProphecyShop_133 (w_Script_readFor (d + 0) (show vc 7 _ from dlt9 b1) hSG hG hr2) rfl rfl d_P_runScript_8 (aft_rw (fun G hG => ?_))
  refine Ev.at (pc' := 11) rfl (Ev.cong (st' := [.inl (.int r2.1)]) ?_ rfl rfl)
  refine cw_istoreN_n 1 r2.1 rfl [some (.inr (0, off 12 0)), some (.inl (.int r2.1))] d_P_runScript_11 rfl rfl rfl ?_
  refine ev_aload_n (k0 := 0) rfl d_P_runScript_12 ?_
  refine ev_iload_n (k0 := 1) rfl d_P_runScript_13 ?_
  obtain ⟨μ3, e_μ3, h⟩ := nm_some h
  refine cv_put (.inl (.int r2.1)) r2.1 hG okC v_12 fl_ProphecyShop_69_12 rfl rfl okv_int d_P_runScript_14 ?_
  intro G hG; rw [← e_μ3] at hG
  refine ev_aload_n (k0 := 0) rfl d_P_runScript_17 ?_
  refine ev_aload_n (k0 := 0) rfl d_P_runScript_18 ?_
  refine cv_get9 (.inr (0, off 6 0)) hG v_12 fg_ProphecyShop_28_12 rfl rfl d_P_runScript_19 ?_
  refine cv_get9 (.inl (.int (μ3 6 0 5))) hG v_6 fg_ProphecyShop_137_6 rfl rfl d_P_runScript_22 ?_
  obtain ⟨μ4, e_μ4, h⟩ := nm_some h
  refine cv_put (.inl (.int (μ3 6 0 5))) (μ3 6 0 5) hG okC v_12 fl_ProphecyShop_73_12 rfl rfl okv_int d_P_runScript_25 ?_
  intro G hG; rw [← e_μ4] at hG
  refine ev_aload_n (k0 := 0) rfl d_P_runScript_28 ?_
  refine cv_get9 (.inr (0, off 11 0)) hG v_12 fg_ProphecyShop_10_12 rfl rfl d_P_runScript_29 ?_
  refine Ev.at (pc' := 32) rfl ?_
  refine cw_iconst 0 d_P_runScript_32 rfl ?_
  obtain ⟨r5, hr5, h⟩ := bind_some9 h
  refine cv_V (d := d + 11) (mc1 := 0) (ms1 := 0) (mc := 0) (ms := 0) [.inl (.int 0)] hG v_11 rfl lk_ProphecyShop_127 (w_Text_shortenTo (d + 11) hG hr5) rfl rfl d_P_runScript_33 (aft_rw (fun G hG => ?_))
  refine Ev.at (pc' := 36) rfl (Ev.cong (st' := []) ?_ rfl rfl)
  refine ev_iload_n (k0 := 1) rfl d_P_runScript_36 ?_
  refine ev_if_eq (tgt := 42) (by decide) d_P_runScript_37 (fun c => ?_) (fun c => ?_)
  · rw [if_pos c] at h
    refine ev_aload_n (k0 := 0) rfl d_P_runScript_42 ?_
    refine cv_get9 (.inr (0, off 2 0)) hG v_12 fg_ProphecyShop_57_12 rfl rfl d_P_runScript_43 ?_
    refine ev_aload_n (k0 := 0) rfl d_P_runScript_46 ?_
    refine cv_get9 (.inr (0, off 9 0)) hG v_12 fg_ProphecyShop_47_12 rfl rfl d_P_runScript_47 ?_
    obtain ⟨r6, hr6, h⟩ := bind_some9 h
    refine cv_V (d := d + 11) (mc1 := 0) (ms1 := 0) (mc := 0) (ms := 0) [.inr (0, off 9 0)] hG v_2 rfl lk_ProphecyShop_138 (w_History_record (d + 9) (show vc 9 0 from (by decide : 0 < 12)) hG hr6) rfl rfl d_P_runScript_50 (aft_rw (fun G hG => ?_))
    refine Ev.at (pc' := 53) rfl (Ev.cong (st' := []) ?_ rfl rfl)
    refine ev_aload_n (k0 := 0) rfl d_P_runScript_53 ?_
    refine cv_get9 (.inr (0, off 6 0)) hG v_12 fg_ProphecyShop_28_12 rfl rfl d_P_runScript_54 ?_
    refine ev_aload_n (k0 := 0) rfl d_P_runScript_57 ?_
    refine cv_get9 (.inr (0, off 9 0)) hG v_12 fg_ProphecyShop_47_12 rfl rfl d_P_runScript_58 ?_
    obtain ⟨r7, hr7, h⟩ := bind_some9 h
    refine cv_V (d := d + 11) (mc1 := 0) (ms1 := 0) (mc := 0) (ms := 0) [.inr (0, off 9 0)] hG v_6 rfl lk_ProphecyShop_142 (w_Script_execute (d + 5) (show vc 9 0 from (by decide : 0 < 12)) hG hr7) rfl rfl d_P_runScript_61 (aft_rw (fun G hG => ?_))
    refine Ev.at (pc' := 64) rfl (Ev.cong (st' := [.inl (.int r7.1)]) ?_ rfl rfl)
    have hP := kE _ (Option.some.inj h).symm
    exact ev_ireturn (st := []) rfl rfl d_P_runScript_64 (by rw [hP]; exact ⟨rfl, hG, rfl⟩)
  · rw [if_neg c] at h
    refine cw_iconst (-1) d_P_runScript_40 rfl ?_
    have hP := kE _ (Option.some.inj h).symm
    exact ev_ireturn (st := []) rfl rfl d_P_runScript_41 (by rw [hP]; exact ⟨rfl, hG, rfl⟩)

/-- ProphecyShop.save -/
def f_P_save (x1 : Int32) (μ : Mem) : Option ((String ⊕ Int32) × Mem) :=
  ((if x1 < 0 then (some (0)) else (if (2 : Int32) ≤ x1 then (some (0)) else (some (1))) : Option (Int32))).bind (fun q1 => ((f_P_throwIfMissing q1 μ)).bind (fun r2 => els r2 (fun E3 => some ((.inl E3, μ))) (fun v4 => chk (inb x1 2) (((f_Shop_copyFrom (10 + x1.toNatClampNeg) 0 μ)).bind (fun r6 => chk (inb x1 2) (nm (st3 r6 36 0 x1.toNatClampNeg 1) (fun μ8 => some ((.inr (μ8 9 0 1), μ8)))))))))
set_option maxRecDepth 100000 in
set_option maxHeartbeats 4000000 in
theorem w_P_save {g : GL} {F G : RG} {nx : Nat} (d : Nat) {x1 : Int32} {μ : Mem}   {o : (String ⊕ Int32) × Mem} (hG : LM vc 0 535 μ F G) (h : f_P_save x1 μ = some o) : Mt g (d + 2) m_P_save [.inr (0, off 12 0), .inl (.int x1)] (G, nx) 1 6 (pRW vc 0 535 (thR rI o.1) o.2 F nx) := by
  unfold f_P_save at h
  have kE : ∀ v, o = v → pRW vc 0 535 (thR rI o.1) o.2 F nx = pRW vc 0 535 (thR rI v.1) v.2 F nx := fun v e => by rw [e]
  refine Mt.of9 [some (.inr (0, off 12 0)), some (.inl (.int x1))] (by decide +kernel) rfl rfl rfl rfl ?_
  refine ev_iload_n (k0 := 1) rfl d_P_save_0 ?_
  obtain ⟨q1, hj, h⟩ := bind_some9 h
  have K_q1 : Ev g (d + 2) m_P_save 14 [some (.inr (0, off 12 0)), some (.inl (.int x1))] [.inl (.int q1)] (G, nx) 1 6 (pRW vc 0 535 (thR rI o.1) o.2 F nx) := by
    obtain ⟨r2, hr2, h⟩ := bind_some9 h
    rcases r2 with E3 | v4
    · have hP := kE _ (Option.some.inj h).symm
      refine cw_S (d := d + 1) (mc1 := 1) (ms1 := 6) (mc := 0) (ms := 0) [.inl (.int q1)] lk_ProphecyShop_178 (w_P_throwIfMissing (d + 1) hG hr2) rfl rfl d_P_save_14 (aft_th rfl (by rw [hP]; exact ⟨rfl, hG, rfl⟩))
    rw [els_r] at h
    refine cw_S (d := d + 1) (mc1 := 1) (ms1 := 6) (mc := 0) (ms := 0) [.inl (.int q1)] lk_ProphecyShop_178 (w_P_throwIfMissing (d + 1) hG hr2) rfl rfl d_P_save_14 (aft_ro ?_)
    refine Ev.at (pc' := 17) rfl (Ev.cong (st' := []) ?_ rfl rfl)
    refine ev_aload_n (k0 := 0) rfl d_P_save_17 ?_
    refine cv_get9 (.inr (0, off 35 0)) hG v_12 fg_ProphecyShop_61_12 rfl rfl d_P_save_18 ?_
    refine ev_iload_n (k0 := 1) rfl d_P_save_21 ?_
    obtain ⟨b5, h⟩ := chk_some h
    refine cv_aald (.inr (0, off 9 (10 + x1.toNatClampNeg))) hG v_35 rfl rfl rfl b5 rfl d_P_save_22 ?_
    refine ev_aload_n (k0 := 0) rfl d_P_save_23 ?_
    refine cv_get9 (.inr (0, off 9 0)) hG v_12 fg_ProphecyShop_47_12 rfl rfl d_P_save_24 ?_
    obtain ⟨r6, hr6, h⟩ := bind_some9 h
    refine cv_V (d := d + 1) (mc1 := 0) (ms1 := 0) (mc := 0) (ms := 0) [.inr (0, off 9 0)] hG (ta_35 v_35 b5) rfl lk_ProphecyShop_296 (w_Shop_copyFrom (d + 0) (ta_35 v_35 b5) (show vc 9 0 from (by decide : 0 < 12)) hG hr6) rfl rfl d_P_save_27 (aft_rw (fun G hG => ?_))
    refine Ev.at (pc' := 30) rfl (Ev.cong (st' := []) ?_ rfl rfl)
    refine ev_aload_n (k0 := 0) rfl d_P_save_30 ?_
    refine cv_get9 (.inr (0, off 36 0)) hG v_12 fg_ProphecyShop_65_12 rfl rfl d_P_save_31 ?_
    refine ev_iload_n (k0 := 1) rfl d_P_save_34 ?_
    refine cw_iconst 1 d_P_save_35 rfl ?_
    obtain ⟨b7, h⟩ := chk_some h
    obtain ⟨μ8, e_μ8, h⟩ := nm_some h
    refine cv_zast hG okC v_36 rfl rfl b7 rfl rfl d_P_save_36 ?_
    intro G hG; rw [← e_μ8] at hG
    refine ev_aload_n (k0 := 0) rfl d_P_save_37 ?_
    refine cv_get9 (.inr (0, off 9 0)) hG v_12 fg_ProphecyShop_47_12 rfl rfl d_P_save_38 ?_
    refine cv_get9 (.inl (.int (μ8 9 0 1))) hG (show vc 9 0 from (by decide : 0 < 12)) fg_ProphecyShop_146_9 rfl rfl d_P_save_41 ?_
    have hP := kE _ (Option.some.inj h).symm
    exact ev_ireturn (st := []) rfl rfl d_P_save_44 (by rw [hP]; exact ⟨rfl, hG, rfl⟩)
  clear h
  have h := hj
  refine ev_if_lt (tgt := 13) (by decide) d_P_save_1 (fun c => ?_) (fun c => ?_)
  · rw [if_pos c] at h
    refine cw_iconst 0 d_P_save_13 rfl ?_
    obtain rfl := Option.some.inj h
    exact K_q1
  · rw [if_neg c] at h
    refine ev_iload_n (k0 := 1) rfl d_P_save_4 ?_
    refine cw_iconst 2 d_P_save_5 rfl ?_
    refine ev_icmp_ge (tgt := 13) (by decide) d_P_save_6 (fun c => ?_) (fun c => ?_)
    · rw [if_pos c] at h
      refine cw_iconst 0 d_P_save_13 rfl ?_
      obtain rfl := Option.some.inj h
      exact K_q1
    · rw [if_neg c] at h
      refine cw_iconst 1 d_P_save_9 rfl ?_
      refine ev_goto (tgt := 14) (by decide) d_P_save_10 ?_
      obtain rfl := Option.some.inj h
      exact K_q1

/-- ProphecyShop.sellAny -/
def f_P_sellAny (x1 : Int32) (x2 : Int32) (x3 : Int32) (x4 : Int32) (x5 : Int32) (x6 : Int32) (x7 : Int32) (μ : Mem) : Option ((String ⊕ Int32) × Mem) :=
  ((f_Shop_faultOfSale 0 x1 x2 x3 x4 x5 x6 x7 μ)).bind (fun r1 => ((f_P_throwFor r1 μ)).bind (fun r2 => els r2 (fun E3 => some ((.inl E3, μ))) (fun v4 => ((f_History_record 0 μ)).bind (fun r5 => ((f_Shop_addProphecy 0 x1 x2 x3 x4 x5 x6 x7 r5)).bind (fun r6 => some ((.inr r6.1, r6.2)))))))
set_option maxRecDepth 100000 in
set_option maxHeartbeats 4000000 in
theorem w_P_sellAny {g : GL} {F G : RG} {nx : Nat} (d : Nat) {x1 : Int32} {x2 : Int32} {x3 : Int32} {x4 : Int32} {x5 : Int32} {x6 : Int32} {x7 : Int32} {μ : Mem}   {o : (String ⊕ Int32) × Mem} (hG : LM vc 0 535 μ F G) (h : f_P_sellAny x1 x2 x3 x4 x5 x6 x7 μ = some o) : Mt g (d + 3) m_P_sellAny [.inr (0, off 12 0), .inl (.int x1), .inl (.int x2), .inl (.int x3), .inl (.int x4), .inl (.int x5), .inl (.int x6), .inl (.int x7)] (G, nx) 3 18 (pRW vc 0 535 (thR rI o.1) o.2 F nx) := by
  unfold f_P_sellAny at h
  have kE : ∀ v, o = v → pRW vc 0 535 (thR rI o.1) o.2 F nx = pRW vc 0 535 (thR rI v.1) v.2 F nx := fun v e => by rw [e]
  refine Mt.of9 [some (.inr (0, off 12 0)), some (.inl (.int x1)), some (.inl (.int x2)), some (.inl (.int x3)), some (.inl (.int x4)), some (.inl (.int x5)), some (.inl (.int x6)), some (.inl (.int x7))] (by decide +kernel) rfl rfl rfl rfl ?_
  refine ev_aload_n (k0 := 0) rfl d_P_sellAny_0 ?_
  refine cv_get9 (.inr (0, off 9 0)) hG v_12 fg_ProphecyShop_47_12 rfl rfl d_P_sellAny_1 ?_
  refine ev_iload_n (k0 := 1) rfl d_P_sellAny_4 ?_
  refine ev_iload_n (k0 := 2) rfl d_P_sellAny_5 ?_
  refine ev_iload_n (k0 := 3) rfl d_P_sellAny_6 ?_
  refine ev_iload (i := 4) rfl d_P_sellAny_7 ?_
  refine ev_iload (i := 5) rfl d_P_sellAny_9 ?_
  refine ev_iload (i := 6) rfl d_P_sellAny_11 ?_
  refine ev_iload (i := 7) rfl d_P_sellAny_13 ?_
  obtain ⟨r1, hr1, h⟩ := bind_some9 h
  refine cv_V (d := d + 2) (mc1 := 0) (ms1 := 0) (mc := 3) (ms := 18) [.inl (.int x1), .inl (.int x2), .inl (.int x3), .inl (.int x4), .inl (.int x5), .inl (.int x6), .inl (.int x7)] hG (show vc 9 0 from (by decide : 0 < 12)) rfl lk_ProphecyShop_362 (w_Shop_faultOfSale (d + 1) (show vc 9 0 from (by decide : 0 < 12)) hG hr1) rfl rfl d_P_sellAny_15 (aft_ro ?_)
  refine Ev.at (pc' := 18) rfl (Ev.cong (st' := [.inl (.int r1)]) ?_ rfl rfl)
  obtain ⟨r2, hr2, h⟩ := bind_some9 h
  rcases r2 with E3 | v4
  · have hP := kE _ (Option.some.inj h).symm
    refine cw_S (d := d + 2) (mc1 := 3) (ms1 := 18) (mc := 0) (ms := 0) [.inl (.int r1)] lk_ProphecyShop_312 (w_P_throwFor (d + 2) hG hr2) rfl rfl d_P_sellAny_18 (aft_th rfl (by rw [hP]; exact ⟨rfl, hG, rfl⟩))
  rw [els_r] at h
  refine cw_S (d := d + 2) (mc1 := 3) (ms1 := 18) (mc := 0) (ms := 0) [.inl (.int r1)] lk_ProphecyShop_312 (w_P_throwFor (d + 2) hG hr2) rfl rfl d_P_sellAny_18 (aft_ro ?_)
  refine Ev.at (pc' := 21) rfl (Ev.cong (st' := []) ?_ rfl rfl)
  refine ev_aload_n (k0 := 0) rfl d_P_sellAny_21 ?_
  refine cv_get9 (.inr (0, off 2 0)) hG v_12 fg_ProphecyShop_57_12 rfl rfl d_P_sellAny_22 ?_
  refine ev_aload_n (k0 := 0) rfl d_P_sellAny_25 ?_
  refine cv_get9 (.inr (0, off 9 0)) hG v_12 fg_ProphecyShop_47_12 rfl rfl d_P_sellAny_26 ?_
  obtain ⟨r5, hr5, h⟩ := bind_some9 h
  refine cv_V (d := d + 2) (mc1 := 0) (ms1 := 0) (mc := 0) (ms := 0) [.inr (0, off 9 0)] hG v_2 rfl lk_ProphecyShop_138 (w_History_record (d + 0) (show vc 9 0 from (by decide : 0 < 12)) hG hr5) rfl rfl d_P_sellAny_29 (aft_rw (fun G hG => ?_))
  refine Ev.at (pc' := 32) rfl (Ev.cong (st' := []) ?_ rfl rfl)
  refine ev_aload_n (k0 := 0) rfl d_P_sellAny_32 ?_
  refine cv_get9 (.inr (0, off 9 0)) hG v_12 fg_ProphecyShop_47_12 rfl rfl d_P_sellAny_33 ?_
  refine ev_iload_n (k0 := 1) rfl d_P_sellAny_36 ?_
  refine ev_iload_n (k0 := 2) rfl d_P_sellAny_37 ?_
  refine ev_iload_n (k0 := 3) rfl d_P_sellAny_38 ?_
  refine ev_iload (i := 4) rfl d_P_sellAny_39 ?_
  refine ev_iload (i := 5) rfl d_P_sellAny_41 ?_
  refine ev_iload (i := 6) rfl d_P_sellAny_43 ?_
  refine ev_iload (i := 7) rfl d_P_sellAny_45 ?_
  obtain ⟨r6, hr6, h⟩ := bind_some9 h
  refine cv_V (d := d + 2) (mc1 := 0) (ms1 := 0) (mc := 0) (ms := 0) [.inl (.int x1), .inl (.int x2), .inl (.int x3), .inl (.int x4), .inl (.int x5), .inl (.int x6), .inl (.int x7)] hG (show vc 9 0 from (by decide : 0 < 12)) rfl lk_ProphecyShop_365 (w_Shop_addProphecy (d + 1) (show vc 9 0 from (by decide : 0 < 12)) hG hr6) rfl rfl d_P_sellAny_47 (aft_rw (fun G hG => ?_))
  refine Ev.at (pc' := 50) rfl (Ev.cong (st' := [.inl (.int r6.1)]) ?_ rfl rfl)
  have hP := kE _ (Option.some.inj h).symm
  exact ev_ireturn (st := []) rfl rfl d_P_sellAny_50 (by rw [hP]; exact ⟨rfl, hG, rfl⟩)

/-- ProphecyShop.sellDenial -/
def f_P_sellDenial (x1 : Int32) (x2 : Int32) (x3 : Int32) (x4 : Int32) (x5 : Int32) (x6 : Int32) (μ : Mem) : Option ((String ⊕ Int32) × Mem) :=
  ((f_P_sellAny x1 2 x2 x3 x4 x5 x6 μ)).bind (fun r1 => els r1.1 (fun E2 => some ((.inl E2, r1.2))) (fun v3 => some ((.inr v3, r1.2))))
set_option maxRecDepth 100000 in
set_option maxHeartbeats 4000000 in
theorem w_P_sellDenial {g : GL} {F G : RG} {nx : Nat} (d : Nat) {x1 : Int32} {x2 : Int32} {x3 : Int32} {x4 : Int32} {x5 : Int32} {x6 : Int32} {μ : Mem}   {o : (String ⊕ Int32) × Mem} (hG : LM vc 0 535 μ F G) (h : f_P_sellDenial x1 x2 x3 x4 x5 x6 μ = some o) : Mt g (d + 4) m_P_sellDenial [.inr (0, off 12 0), .inl (.int x1), .inl (.int x2), .inl (.int x3), .inl (.int x4), .inl (.int x5), .inl (.int x6)] (G, nx) 3 18 (pRW vc 0 535 (thR rI o.1) o.2 F nx) := by
  unfold f_P_sellDenial at h
  have kE : ∀ v, o = v → pRW vc 0 535 (thR rI o.1) o.2 F nx = pRW vc 0 535 (thR rI v.1) v.2 F nx := fun v e => by rw [e]
  refine Mt.of9 [some (.inr (0, off 12 0)), some (.inl (.int x1)), some (.inl (.int x2)), some (.inl (.int x3)), some (.inl (.int x4)), some (.inl (.int x5)), some (.inl (.int x6))] (by decide +kernel) rfl rfl rfl rfl ?_
  refine ev_aload_n (k0 := 0) rfl d_P_sellDenial_0 ?_
  refine ev_iload_n (k0 := 1) rfl d_P_sellDenial_1 ?_
  refine cw_iconst 2 d_P_sellDenial_2 rfl ?_
  refine ev_iload_n (k0 := 2) rfl d_P_sellDenial_3 ?_
  refine ev_iload_n (k0 := 3) rfl d_P_sellDenial_4 ?_
  refine ev_iload (i := 4) rfl d_P_sellDenial_5 ?_
  refine ev_iload (i := 5) rfl d_P_sellDenial_7 ?_
  refine ev_iload (i := 6) rfl d_P_sellDenial_9 ?_
  obtain ⟨r1, hr1, h⟩ := bind_some9 h
  obtain ⟨r1, r1_m⟩ := r1
  rcases r1 with E2 | v3
  · have hP := kE _ (Option.some.inj h).symm
    refine cv_V (d := d + 3) (mc1 := 3) (ms1 := 18) (mc := 0) (ms := 0) [.inl (.int x1), .inl (.int 2), .inl (.int x2), .inl (.int x3), .inl (.int x4), .inl (.int x5), .inl (.int x6)] hG v_12 rfl lk_ProphecyShop_305 (w_P_sellAny (d + 0) hG hr1) rfl rfl d_P_sellDenial_11 (aft_thw (G := G) rfl (fun G hG => by rw [hP]; exact ⟨rfl, hG, rfl⟩))
  rw [els_r] at h
  refine cv_V (d := d + 3) (mc1 := 3) (ms1 := 18) (mc := 0) (ms := 0) [.inl (.int x1), .inl (.int 2), .inl (.int x2), .inl (.int x3), .inl (.int x4), .inl (.int x5), .inl (.int x6)] hG v_12 rfl lk_ProphecyShop_305 (w_P_sellAny (d + 0) hG hr1) rfl rfl d_P_sellDenial_11 (aft_rw (fun G hG => ?_))
  refine Ev.at (pc' := 14) rfl (Ev.cong (st' := [.inl (.int v3)]) ?_ rfl rfl)
  have hP := kE _ (Option.some.inj h).symm
  exact ev_ireturn (st := []) rfl rfl d_P_sellDenial_14 (by rw [hP]; exact ⟨rfl, hG, rfl⟩)

/-- ProphecyShop.sellPlain -/
def f_P_sellPlain (x1 : Int32) (x2 : Int32) (x3 : Int32) (x4 : Int32) (x5 : Int32) (x6 : Int32) (μ : Mem) : Option ((String ⊕ Int32) × Mem) :=
  ((f_P_sellAny x1 0 x2 x3 x4 x5 x6 μ)).bind (fun r1 => els r1.1 (fun E2 => some ((.inl E2, r1.2))) (fun v3 => some ((.inr v3, r1.2))))
set_option maxRecDepth 100000 in
set_option maxHeartbeats 4000000 in
theorem w_P_sellPlain {g : GL} {F G : RG} {nx : Nat} (d : Nat) {x1 : Int32} {x2 : Int32} {x3 : Int32} {x4 : Int32} {x5 : Int32} {x6 : Int32} {μ : Mem}   {o : (String ⊕ Int32) × Mem} (hG : LM vc 0 535 μ F G) (h : f_P_sellPlain x1 x2 x3 x4 x5 x6 μ = some o) : Mt g (d + 4) m_P_sellPlain [.inr (0, off 12 0), .inl (.int x1), .inl (.int x2), .inl (.int x3), .inl (.int x4), .inl (.int x5), .inl (.int x6)] (G, nx) 3 18 (pRW vc 0 535 (thR rI o.1) o.2 F nx) := by
  unfold f_P_sellPlain at h
  have kE : ∀ v, o = v → pRW vc 0 535 (thR rI o.1) o.2 F nx = pRW vc 0 535 (thR rI v.1) v.2 F nx := fun v e => by rw [e]
  refine Mt.of9 [some (.inr (0, off 12 0)), some (.inl (.int x1)), some (.inl (.int x2)), some (.inl (.int x3)), some (.inl (.int x4)), some (.inl (.int x5)), some (.inl (.int x6))] (by decide +kernel) rfl rfl rfl rfl ?_
  refine ev_aload_n (k0 := 0) rfl d_P_sellPlain_0 ?_
  refine ev_iload_n (k0 := 1) rfl d_P_sellPlain_1 ?_
  refine cw_iconst 0 d_P_sellPlain_2 rfl ?_
  refine ev_iload_n (k0 := 2) rfl d_P_sellPlain_3 ?_
  refine ev_iload_n (k0 := 3) rfl d_P_sellPlain_4 ?_
  refine ev_iload (i := 4) rfl d_P_sellPlain_5 ?_
  refine ev_iload (i := 5) rfl d_P_sellPlain_7 ?_
  refine ev_iload (i := 6) rfl d_P_sellPlain_9 ?_
  obtain ⟨r1, hr1, h⟩ := bind_some9 h
  obtain ⟨r1, r1_m⟩ := r1
  rcases r1 with E2 | v3
  · have hP := kE _ (Option.some.inj h).symm
    refine cv_V (d := d + 3) (mc1 := 3) (ms1 := 18) (mc := 0) (ms := 0) [.inl (.int x1), .inl (.int 0), .inl (.int x2), .inl (.int x3), .inl (.int x4), .inl (.int x5), .inl (.int x6)] hG v_12 rfl lk_ProphecyShop_305 (w_P_sellAny (d + 0) hG hr1) rfl rfl d_P_sellPlain_11 (aft_thw (G := G) rfl (fun G hG => by rw [hP]; exact ⟨rfl, hG, rfl⟩))
  rw [els_r] at h
  refine cv_V (d := d + 3) (mc1 := 3) (ms1 := 18) (mc := 0) (ms := 0) [.inl (.int x1), .inl (.int 0), .inl (.int x2), .inl (.int x3), .inl (.int x4), .inl (.int x5), .inl (.int x6)] hG v_12 rfl lk_ProphecyShop_305 (w_P_sellAny (d + 0) hG hr1) rfl rfl d_P_sellPlain_11 (aft_rw (fun G hG => ?_))
  refine Ev.at (pc' := 14) rfl (Ev.cong (st' := [.inl (.int v3)]) ?_ rfl rfl)
  have hP := kE _ (Option.some.inj h).symm
  exact ev_ireturn (st := []) rfl rfl d_P_sellPlain_14 (by rw [hP]; exact ⟨rfl, hG, rfl⟩)

/-- ProphecyShop.sellVague -/
def f_P_sellVague (x1 : Int32) (x2 : Int32) (x3 : Int32) (x4 : Int32) (x5 : Int32) (μ : Mem) : Option ((String ⊕ Int32) × Mem) :=
  ((f_P_sellAny x1 1 x2 (-1) x3 x4 x5 μ)).bind (fun r1 => els r1.1 (fun E2 => some ((.inl E2, r1.2))) (fun v3 => some ((.inr v3, r1.2))))
set_option maxRecDepth 100000 in
set_option maxHeartbeats 4000000 in
theorem w_P_sellVague {g : GL} {F G : RG} {nx : Nat} (d : Nat) {x1 : Int32} {x2 : Int32} {x3 : Int32} {x4 : Int32} {x5 : Int32} {μ : Mem}   {o : (String ⊕ Int32) × Mem} (hG : LM vc 0 535 μ F G) (h : f_P_sellVague x1 x2 x3 x4 x5 μ = some o) : Mt g (d + 4) m_P_sellVague [.inr (0, off 12 0), .inl (.int x1), .inl (.int x2), .inl (.int x3), .inl (.int x4), .inl (.int x5)] (G, nx) 3 18 (pRW vc 0 535 (thR rI o.1) o.2 F nx) := by
  unfold f_P_sellVague at h
  have kE : ∀ v, o = v → pRW vc 0 535 (thR rI o.1) o.2 F nx = pRW vc 0 535 (thR rI v.1) v.2 F nx := fun v e => by rw [e]
  refine Mt.of9 [some (.inr (0, off 12 0)), some (.inl (.int x1)), some (.inl (.int x2)), some (.inl (.int x3)), some (.inl (.int x4)), some (.inl (.int x5))] (by decide +kernel) rfl rfl rfl rfl ?_
  refine ev_aload_n (k0 := 0) rfl d_P_sellVague_0 ?_
  refine ev_iload_n (k0 := 1) rfl d_P_sellVague_1 ?_
  refine cw_iconst 1 d_P_sellVague_2 rfl ?_
  refine ev_iload_n (k0 := 2) rfl d_P_sellVague_3 ?_
  refine cw_iconst (-1) d_P_sellVague_4 rfl ?_
  refine ev_iload_n (k0 := 3) rfl d_P_sellVague_5 ?_
  refine ev_iload (i := 4) rfl d_P_sellVague_6 ?_
  refine ev_iload (i := 5) rfl d_P_sellVague_8 ?_
  obtain ⟨r1, hr1, h⟩ := bind_some9 h
  obtain ⟨r1, r1_m⟩ := r1
  rcases r1 with E2 | v3
  · have hP := kE _ (Option.some.inj h).symm
    refine cv_V (d := d + 3) (mc1 := 3) (ms1 := 18) (mc := 0) (ms := 0) [.inl (.int x1), .inl (.int 1), .inl (.int x2), .inl (.int ((-1))), .inl (.int x3), .inl (.int x4), .inl (.int x5)] hG v_12 rfl lk_ProphecyShop_305 (w_P_sellAny (d + 0) hG hr1) rfl rfl d_P_sellVague_10 (aft_thw (G := G) rfl (fun G hG => by rw [hP]; exact ⟨rfl, hG, rfl⟩))
  rw [els_r] at h
  refine cv_V (d := d + 3) (mc1 := 3) (ms1 := 18) (mc := 0) (ms := 0) [.inl (.int x1), .inl (.int 1), .inl (.int x2), .inl (.int ((-1))), .inl (.int x3), .inl (.int x4), .inl (.int x5)] hG v_12 rfl lk_ProphecyShop_305 (w_P_sellAny (d + 0) hG hr1) rfl rfl d_P_sellVague_10 (aft_rw (fun G hG => ?_))
  refine Ev.at (pc' := 13) rfl (Ev.cong (st' := [.inl (.int v3)]) ?_ rfl rfl)
  have hP := kE _ (Option.some.inj h).symm
  exact ev_ireturn (st := []) rfl rfl d_P_sellVague_13 (by rw [hP]; exact ⟨rfl, hG, rfl⟩)

/-- ProphecyShop.stateOf -/
def f_P_stateOf (x1 : Int32) (μ : Mem) : Option (String ⊕ Int32) :=
  ((f_P_prophecyWith x1 μ)).bind (fun r1 => els r1 (fun E2 => some ((.inl E2))) (fun v3 => chk (decide (v3 < 288)) (some (.inr (μ 5 v3 7)))))
set_option maxRecDepth 100000 in
set_option maxHeartbeats 4000000 in
theorem w_P_stateOf {g : GL} {F G : RG} {nx : Nat} (d : Nat) {x1 : Int32} {μ : Mem}   {o : String ⊕ Int32} (hG : LM vc 0 535 μ F G) (h : f_P_stateOf x1 μ = some o) : Mt g (d + 3) m_P_stateOf [.inr (0, off 12 0), .inl (.int x1)] (G, nx) 1 6 (pRO (thR rI o) (G, nx)) := by
  unfold f_P_stateOf at h
  have kE : ∀ v, o = v → pRO (thR rI o) (G, nx) = pRO (thR rI v) (G, nx) := fun v e => by rw [e]
  refine Mt.of9 [some (.inr (0, off 12 0)), some (.inl (.int x1))] (by decide +kernel) rfl rfl rfl rfl ?_
  refine ev_aload_n (k0 := 0) rfl d_P_stateOf_0 ?_
  refine ev_iload_n (k0 := 1) rfl d_P_stateOf_1 ?_
  obtain ⟨r1, hr1, h⟩ := bind_some9 h
  rcases r1 with E2 | v3
  · have hP := kE _ (Option.some.inj h).symm
    refine cv_V (d := d + 2) (mc1 := 1) (ms1 := 6) (mc := 0) (ms := 0) [.inl (.int x1)] hG v_12 rfl lk_ProphecyShop_198 (w_P_prophecyWith (d + 0) hG hr1) rfl rfl d_P_stateOf_2 (aft_th rfl (by rw [hP]; exact ⟨rfl, rfl⟩))
  rw [els_r] at h
  refine cv_V (d := d + 2) (mc1 := 1) (ms1 := 6) (mc := 0) (ms := 0) [.inl (.int x1)] hG v_12 rfl lk_ProphecyShop_198 (w_P_prophecyWith (d + 0) hG hr1) rfl rfl d_P_stateOf_2 (aft_ro ?_)
  obtain ⟨b4, h⟩ := chk_some h
  refine Ev.at (pc' := 5) rfl (Ev.cong (st' := [.inr (0, off 5 v3)]) ?_ rfl rfl)
  refine cv_get9 (.inl (.int (μ 5 v3 7))) hG (show vc 5 _ from dlt9 b4) fg_ProphecyShop_222_5 rfl rfl d_P_stateOf_5 ?_
  have hP := kE _ (Option.some.inj h).symm
  exact ev_ireturn (st := []) rfl rfl d_P_stateOf_8 (by rw [hP]; exact ⟨rfl, rfl⟩)

/-- ProphecyShop.timesHappened -/
def f_P_timesHappened (x1 : Int32) (x2 : Int32) (μ : Mem) : Option (String ⊕ Int32) :=
  chk (decide ((μ 12 0 3).toNatClampNeg < 2)) (((f_Names_has (3 * ((μ 12 0 3).toNatClampNeg)) x1 μ)).bind (fun r2 => ((if r2 = 0 then (some (0)) else (chk (decide ((μ 12 0 3).toNatClampNeg < 2)) (((f_Names_has (3 * ((μ 12 0 3).toNatClampNeg) + 1) x2 μ)).bind (fun r9 => if r9 = 0 then (some (0)) else (some (1))))) : Option (Int32))).bind (fun q3 => ((f_P_throwIfMissing q3 μ)).bind (fun r4 => els r4 (fun E5 => some ((.inl E5))) (fun v6 => ((f_Shop_countHappenings 0 x1 x2 μ)).bind (fun r7 => some (.inr r7)))))))
set_option maxRecDepth 100000 in
set_option maxHeartbeats 4000000 in
theorem w_P_timesHappened {g : GL} {F G : RG} {nx : Nat} (d : Nat) {x1 : Int32} {x2 : Int32} {μ : Mem}   {o : String ⊕ Int32} (hG : LM vc 0 535 μ F G) (h : f_P_timesHappened x1 x2 μ = some o) : Mt g (d + 1) m_P_timesHappened [.inr (0, off 12 0), .inl (.int x1), .inl (.int x2)] (G, nx) 1 6 (pRO (thR rI o) (G, nx)) := by
  unfold f_P_timesHappened at h
  have kE : ∀ v, o = v → pRO (thR rI o) (G, nx) = pRO (thR rI v) (G, nx) := fun v e => by rw [e]
  refine Mt.of9 [some (.inr (0, off 12 0)), some (.inl (.int x1)), some (.inl (.int x2))] (by decide +kernel) rfl rfl rfl rfl ?_
  refine ev_aload_n (k0 := 0) rfl d_P_timesHappened_0 ?_
  obtain ⟨b1, h⟩ := chk_some h
  refine cv_get9 (.inr (0, off 7 ((μ 12 0 3).toNatClampNeg))) hG v_12 fg_ProphecyShop_35_12 rfl rfl d_P_timesHappened_1 ?_
  refine cv_get9 (.inr (0, off 3 (3 * ((μ 12 0 3).toNatClampNeg)))) hG (show vc 7 _ from dlt9 b1) fg_ProphecyShop_152_7 rfl rfl d_P_timesHappened_4 ?_
  refine ev_iload_n (k0 := 1) rfl d_P_timesHappened_7 ?_
  obtain ⟨r2, hr2, h⟩ := bind_some9 h
  refine cv_V (d := d + 0) (mc1 := 0) (ms1 := 0) (mc := 1) (ms := 6) [.inl (.int x1)] hG (tv_7_5 (show vc 7 _ from dlt9 b1)) rfl lk_ProphecyShop_174 (w_Names_has (d + 0) (tv_7_5 (show vc 7 _ from dlt9 b1)) hG hr2) rfl rfl d_P_timesHappened_8 (aft_ro ?_)
  refine Ev.at (pc' := 11) rfl (Ev.cong (st' := [.inl (.int r2)]) ?_ rfl rfl)
  obtain ⟨q3, hj, h⟩ := bind_some9 h
  have K_q3 : Ev g (d + 1) m_P_timesHappened 33 [some (.inr (0, off 12 0)), some (.inl (.int x1)), some (.inl (.int x2))] [.inl (.int q3)] (G, nx) 1 6 (pRO (thR rI o) (G, nx)) := by
    obtain ⟨r4, hr4, h⟩ := bind_some9 h
    rcases r4 with E5 | v6
    · have hP := kE _ (Option.some.inj h).symm
      refine cw_S (d := d + 0) (mc1 := 1) (ms1 := 6) (mc := 0) (ms := 0) [.inl (.int q3)] lk_ProphecyShop_178 (w_P_throwIfMissing (d + 0) hG hr4) rfl rfl d_P_timesHappened_33 (aft_th rfl (by rw [hP]; exact ⟨rfl, rfl⟩))
    rw [els_r] at h
    refine cw_S (d := d + 0) (mc1 := 1) (ms1 := 6) (mc := 0) (ms := 0) [.inl (.int q3)] lk_ProphecyShop_178 (w_P_throwIfMissing (d + 0) hG hr4) rfl rfl d_P_timesHappened_33 (aft_ro ?_)
    refine Ev.at (pc' := 36) rfl (Ev.cong (st' := []) ?_ rfl rfl)
    refine ev_aload_n (k0 := 0) rfl d_P_timesHappened_36 ?_
    refine cv_get9 (.inr (0, off 9 0)) hG v_12 fg_ProphecyShop_47_12 rfl rfl d_P_timesHappened_37 ?_
    refine ev_iload_n (k0 := 1) rfl d_P_timesHappened_40 ?_
    refine ev_iload_n (k0 := 2) rfl d_P_timesHappened_41 ?_
    obtain ⟨r7, hr7, h⟩ := bind_some9 h
    refine cv_V (d := d + 0) (mc1 := 0) (ms1 := 0) (mc := 0) (ms := 0) [.inl (.int x1), .inl (.int x2)] hG (show vc 9 0 from (by decide : 0 < 12)) rfl lk_ProphecyShop_185 (w_Shop_countHappenings (d + 0) (show vc 9 0 from (by decide : 0 < 12)) hG hr7) rfl rfl d_P_timesHappened_42 (aft_ro ?_)
    refine Ev.at (pc' := 45) rfl (Ev.cong (st' := [.inl (.int r7)]) ?_ rfl rfl)
    have hP := kE _ (Option.some.inj h).symm
    exact ev_ireturn (st := []) rfl rfl d_P_timesHappened_45 (by rw [hP]; exact ⟨rfl, rfl⟩)
  clear h
  have h := hj
  refine ev_if_eq (tgt := 32) (by decide) d_P_timesHappened_11 (fun c => ?_) (fun c => ?_)
  · rw [if_pos c] at h
    refine cw_iconst 0 d_P_timesHappened_32 rfl ?_
    obtain rfl := Option.some.inj h
    exact K_q3
  · rw [if_neg c] at h
    refine ev_aload_n (k0 := 0) rfl d_P_timesHappened_14 ?_
    obtain ⟨b8, h⟩ := chk_some h
    refine cv_get9 (.inr (0, off 7 ((μ 12 0 3).toNatClampNeg))) hG v_12 fg_ProphecyShop_35_12 rfl rfl d_P_timesHappened_15 ?_
    refine cv_get9 (.inr (0, off 3 (3 * ((μ 12 0 3).toNatClampNeg) + 1))) hG (show vc 7 _ from dlt9 b8) fg_ProphecyShop_161_7 rfl rfl d_P_timesHappened_18 ?_
    refine ev_iload_n (k0 := 2) rfl d_P_timesHappened_21 ?_
    obtain ⟨r9, hr9, h⟩ := bind_some9 h
    refine cv_V (d := d + 0) (mc1 := 0) (ms1 := 0) (mc := 1) (ms := 6) [.inl (.int x2)] hG (tv_7_6 (show vc 7 _ from dlt9 b8)) rfl lk_ProphecyShop_174 (w_Names_has (d + 0) (tv_7_6 (show vc 7 _ from dlt9 b8)) hG hr9) rfl rfl d_P_timesHappened_22 (aft_ro ?_)
    refine Ev.at (pc' := 25) rfl (Ev.cong (st' := [.inl (.int r9)]) ?_ rfl rfl)
    refine ev_if_eq (tgt := 32) (by decide) d_P_timesHappened_25 (fun c => ?_) (fun c => ?_)
    · rw [if_pos c] at h
      refine cw_iconst 0 d_P_timesHappened_32 rfl ?_
      obtain rfl := Option.some.inj h
      exact K_q3
    · rw [if_neg c] at h
      refine cw_iconst 1 d_P_timesHappened_28 rfl ?_
      refine ev_goto (tgt := 33) (by decide) d_P_timesHappened_29 ?_
      obtain rfl := Option.some.inj h
      exact K_q3

/-- ProphecyShop.truncate -/
def f_P_truncate (x1 : Int32) (μ : Mem) : Option ((String ⊕ Int32) × Mem) :=
  ((f_Text_size μ)).bind (fun r1 => ((f_P_isWithin x1 0 r1 μ)).bind (fun r2 => if r2 = 0 then (some ((.inl xIAE, μ))) else (((f_Text_size μ)).bind (fun r3 => nm (r3 - x1 : Int32) (fun v4 => ((f_Text_shortenTo x1 μ)).bind (fun r5 => some ((.inr v4, r5))))))))
set_option maxRecDepth 100000 in
set_option maxHeartbeats 4000000 in
theorem w_P_truncate {g : GL} {F G : RG} {nx : Nat} (d : Nat) {x1 : Int32} {μ : Mem}   {o : (String ⊕ Int32) × Mem} (hG : LM vc 0 535 μ F G) (h : f_P_truncate x1 μ = some o) : Mt g (d + 1) m_P_truncate [.inr (0, off 12 0), .inl (.int x1)] (G, nx) 1 6 (pRW vc 0 535 (thR rI o.1) o.2 F nx) := by
  unfold f_P_truncate at h
  have kE : ∀ v, o = v → pRW vc 0 535 (thR rI o.1) o.2 F nx = pRW vc 0 535 (thR rI v.1) v.2 F nx := fun v e => by rw [e]
  refine Mt.of9 [some (.inr (0, off 12 0)), some (.inl (.int x1)), none] (by decide +kernel) rfl rfl rfl rfl ?_
  refine ev_iload_n (k0 := 1) rfl d_P_truncate_0 ?_
  refine cw_iconst 0 d_P_truncate_1 rfl ?_
  refine ev_aload_n (k0 := 0) rfl d_P_truncate_2 ?_
  refine cv_get9 (.inr (0, off 11 0)) hG v_12 fg_ProphecyShop_10_12 rfl rfl d_P_truncate_3 ?_
  obtain ⟨r1, hr1, h⟩ := bind_some9 h
  refine cv_V (d := d + 0) (mc1 := 0) (ms1 := 0) (mc := 1) (ms := 6) [] hG v_11 rfl lk_ProphecyShop_105 (w_Text_size (d + 0) hG hr1) rfl rfl d_P_truncate_6 (aft_ro ?_)
  refine Ev.at (pc' := 9) rfl (Ev.cong (st' := [.inl (.int r1), .inl (.int 0), .inl (.int x1)]) ?_ rfl rfl)
  obtain ⟨r2, hr2, h⟩ := bind_some9 h
  refine cw_S (d := d + 0) (mc1 := 0) (ms1 := 0) (mc := 1) (ms := 6) [.inl (.int x1), .inl (.int 0), .inl (.int r1)] lk_ProphecyShop_118 (w_P_isWithin (d + 0) hG hr2) rfl rfl d_P_truncate_9 (aft_ro ?_)
  refine Ev.at (pc' := 12) rfl (Ev.cong (st' := [.inl (.int r2)]) ?_ rfl rfl)
  refine ev_if_ne (tgt := 25) (by decide) d_P_truncate_12 (fun c => ?_) (fun c => ?_)
  · rw [if_neg c] at h
    refine ev_aload_n (k0 := 0) rfl d_P_truncate_25 ?_
    refine cv_get9 (.inr (0, off 11 0)) hG v_12 fg_ProphecyShop_10_12 rfl rfl d_P_truncate_26 ?_
    obtain ⟨r3, hr3, h⟩ := bind_some9 h
    refine cv_V (d := d + 0) (mc1 := 0) (ms1 := 0) (mc := 1) (ms := 6) [] hG v_11 rfl lk_ProphecyShop_105 (w_Text_size (d + 0) hG hr3) rfl rfl d_P_truncate_29 (aft_ro ?_)
    refine Ev.at (pc' := 32) rfl (Ev.cong (st' := [.inl (.int r3)]) ?_ rfl rfl)
    refine ev_iload_n (k0 := 1) rfl d_P_truncate_32 ?_
    refine ev_isub d_P_truncate_33 ?_
    obtain ⟨v4, e_v4, h⟩ := nm_some h
    refine cw_istoreN_n 2 v4 e_v4 [some (.inr (0, off 12 0)), some (.inl (.int x1)), some (.inl (.int v4))] d_P_truncate_34 rfl rfl rfl ?_
    refine ev_aload_n (k0 := 0) rfl d_P_truncate_35 ?_
    refine cv_get9 (.inr (0, off 11 0)) hG v_12 fg_ProphecyShop_10_12 rfl rfl d_P_truncate_36 ?_
    refine ev_iload_n (k0 := 1) rfl d_P_truncate_39 ?_
    obtain ⟨r5, hr5, h⟩ := bind_some9 h
    refine cv_V (d := d + 0) (mc1 := 0) (ms1 := 0) (mc := 1) (ms := 6) [.inl (.int x1)] hG v_11 rfl lk_ProphecyShop_127 (w_Text_shortenTo (d + 0) hG hr5) rfl rfl d_P_truncate_40 (aft_rw (fun G hG => ?_))
    refine Ev.at (pc' := 43) rfl (Ev.cong (st' := []) ?_ rfl rfl)
    refine ev_iload_n (k0 := 2) rfl d_P_truncate_43 ?_
    have hP := kE _ (Option.some.inj h).symm
    exact ev_ireturn (st := []) rfl rfl d_P_truncate_44 (by rw [hP]; exact ⟨rfl, hG, rfl⟩)
  · rw [if_pos c] at h
    have hP := kE _ (Option.some.inj h).symm
    exact ev_throw (mc := 0) (ms := 0) th_P_truncate_15 rfl (Nat.le_of_ble_eq_true rfl) (by rw [hP]; exact ⟨rfl, hG, rfl⟩)

/-- ProphecyShop.truthShare -/
def f_P_truthShare  (μ : Mem) : Option (UInt32) :=
  ((f_Shop_countWithState 0 0 μ)).bind (fun r1 => nm ((μ 9 0 5) - r1 : Int32) (fun v2 => if v2 = 0 then some FP.fconst0 else (((f_Shop_countWithState 0 1 μ)).bind (fun r3 => chk (okF9 (FP.fdiv (FP.i2f r3) (FP.i2f v2))) (some (FP.fdiv (FP.i2f r3) (FP.i2f v2)))))))
set_option maxRecDepth 100000 in
set_option maxHeartbeats 4000000 in
theorem w_P_truthShare {g : GL} {F G : RG} {nx : Nat} (d : Nat)  {μ : Mem}   {o : UInt32} (hG : LM vc 0 535 μ F G) (h : f_P_truthShare  μ = some o) : Mt g (d + 1) m_P_truthShare [.inr (0, off 12 0)] (G, nx) 0 0 (pRO (rF o) (G, nx)) := by
  unfold f_P_truthShare at h
  have kE : ∀ v, o = v → pRO (rF o) (G, nx) = pRO (rF v) (G, nx) := fun v e => by rw [e]
  refine Mt.of9 [some (.inr (0, off 12 0)), none] (by decide +kernel) rfl rfl rfl rfl ?_
  refine ev_aload_n (k0 := 0) rfl d_P_truthShare_0 ?_
  refine cv_get9 (.inr (0, off 9 0)) hG v_12 fg_ProphecyShop_47_12 rfl rfl d_P_truthShare_1 ?_
  refine cv_get9 (.inl (.int (μ 9 0 5))) hG (show vc 9 0 from (by decide : 0 < 12)) fg_ProphecyShop_195_9 rfl rfl d_P_truthShare_4 ?_
  refine ev_aload_n (k0 := 0) rfl d_P_truthShare_7 ?_
  refine cv_get9 (.inr (0, off 9 0)) hG v_12 fg_ProphecyShop_47_12 rfl rfl d_P_truthShare_8 ?_
  refine cw_iconst 0 d_P_truthShare_11 rfl ?_
  obtain ⟨r1, hr1, h⟩ := bind_some9 h
  refine cv_V (d := d + 0) (mc1 := 0) (ms1 := 0) (mc := 0) (ms := 0) [.inl (.int 0)] hG (show vc 9 0 from (by decide : 0 < 12)) rfl lk_ProphecyShop_269 (w_Shop_countWithState (d + 0) (show vc 9 0 from (by decide : 0 < 12)) hG hr1) rfl rfl d_P_truthShare_12 (aft_ro ?_)
  refine Ev.at (pc' := 15) rfl (Ev.cong (st' := [.inl (.int r1), .inl (.int (μ 9 0 5))]) ?_ rfl rfl)
  refine ev_isub d_P_truthShare_15 ?_
  obtain ⟨v2, e_v2, h⟩ := nm_some h
  refine cw_istoreN_n 1 v2 e_v2 [some (.inr (0, off 12 0)), some (.inl (.int v2))] d_P_truthShare_16 rfl rfl rfl ?_
  refine ev_iload_n (k0 := 1) rfl d_P_truthShare_17 ?_
  refine ev_if_ne (tgt := 25) (by decide) d_P_truthShare_18 (fun c => ?_) (fun c => ?_)
  · rw [if_neg c] at h
    refine ev_aload_n (k0 := 0) rfl d_P_truthShare_25 ?_
    refine cv_get9 (.inr (0, off 9 0)) hG v_12 fg_ProphecyShop_47_12 rfl rfl d_P_truthShare_26 ?_
    refine cw_iconst 1 d_P_truthShare_29 rfl ?_
    obtain ⟨r3, hr3, h⟩ := bind_some9 h
    refine cv_V (d := d + 0) (mc1 := 0) (ms1 := 0) (mc := 0) (ms := 0) [.inl (.int 1)] hG (show vc 9 0 from (by decide : 0 < 12)) rfl lk_ProphecyShop_269 (w_Shop_countWithState (d + 0) (show vc 9 0 from (by decide : 0 < 12)) hG hr3) rfl rfl d_P_truthShare_30 (aft_ro ?_)
    refine Ev.at (pc' := 33) rfl (Ev.cong (st' := [.inl (.int r3)]) ?_ rfl rfl)
    refine ev_i2f d_P_truthShare_33 ?_
    refine ev_iload_n (k0 := 1) rfl d_P_truthShare_34 ?_
    refine ev_i2f d_P_truthShare_35 ?_
    obtain ⟨b4, h⟩ := chk_some h
    refine ev_fdiv (okF9_n b4) d_P_truthShare_36 ?_
    have hP := kE _ (Option.some.inj h).symm
    exact ev_freturn (st := []) rfl d_P_truthShare_37 (by rw [hP]; exact ⟨rfl, rfl⟩)
  · rw [if_pos c] at h
    refine ev_fconst0 d_P_truthShare_21 ?_
    refine ev_goto (tgt := 37) (by decide) d_P_truthShare_22 ?_
    have hP := kE _ (Option.some.inj h).symm
    exact ev_freturn (st := []) rfl d_P_truthShare_37 (by rw [hP]; exact ⟨rfl, rfl⟩)

/-- ProphecyShop.undo -/
def f_P_undo  (μ : Mem) : Option ((String ⊕ Int32) × Mem) :=
  if (μ 2 0 1) = 0 then (some ((.inl xISE, μ))) else (((f_History_takeBack 0 μ)).bind (fun r1 => some ((.inr (r1 2 0 1), r1))))
set_option maxRecDepth 100000 in
set_option maxHeartbeats 4000000 in
theorem w_P_undo {g : GL} {F G : RG} {nx : Nat} (d : Nat)  {μ : Mem}   {o : (String ⊕ Int32) × Mem} (hG : LM vc 0 535 μ F G) (h : f_P_undo  μ = some o) : Mt g (d + 3) m_P_undo [.inr (0, off 12 0)] (G, nx) 1 6 (pRW vc 0 535 (thR rI o.1) o.2 F nx) := by
  unfold f_P_undo at h
  have kE : ∀ v, o = v → pRW vc 0 535 (thR rI o.1) o.2 F nx = pRW vc 0 535 (thR rI v.1) v.2 F nx := fun v e => by rw [e]
  refine Mt.of9 [some (.inr (0, off 12 0))] (by decide +kernel) rfl rfl rfl rfl ?_
  refine ev_aload_n (k0 := 0) rfl d_P_undo_0 ?_
  refine cv_get9 (.inr (0, off 2 0)) hG v_12 fg_ProphecyShop_57_12 rfl rfl d_P_undo_1 ?_
  refine cv_get9 (.inl (.int (μ 2 0 1))) hG v_2 fg_ProphecyShop_348_2 rfl rfl d_P_undo_4 ?_
  refine ev_if_ne (tgt := 21) (by decide) d_P_undo_7 (fun c => ?_) (fun c => ?_)
  · rw [if_neg c] at h
    refine ev_aload_n (k0 := 0) rfl d_P_undo_21 ?_
    refine cv_get9 (.inr (0, off 2 0)) hG v_12 fg_ProphecyShop_57_12 rfl rfl d_P_undo_22 ?_
    refine ev_aload_n (k0 := 0) rfl d_P_undo_25 ?_
    refine cv_get9 (.inr (0, off 9 0)) hG v_12 fg_ProphecyShop_47_12 rfl rfl d_P_undo_26 ?_
    obtain ⟨r1, hr1, h⟩ := bind_some9 h
    refine cv_V (d := d + 2) (mc1 := 0) (ms1 := 0) (mc := 1) (ms := 6) [.inr (0, off 9 0)] hG v_2 rfl lk_ProphecyShop_351 (w_History_takeBack (d + 0) (show vc 9 0 from (by decide : 0 < 12)) hG hr1) rfl rfl d_P_undo_29 (aft_rw (fun G hG => ?_))
    refine Ev.at (pc' := 32) rfl (Ev.cong (st' := []) ?_ rfl rfl)
    refine ev_aload_n (k0 := 0) rfl d_P_undo_32 ?_
    refine cv_get9 (.inr (0, off 2 0)) hG v_12 fg_ProphecyShop_57_12 rfl rfl d_P_undo_33 ?_
    refine cv_get9 (.inl (.int (r1 2 0 1))) hG v_2 fg_ProphecyShop_348_2 rfl rfl d_P_undo_36 ?_
    have hP := kE _ (Option.some.inj h).symm
    exact ev_ireturn (st := []) rfl rfl d_P_undo_39 (by rw [hP]; exact ⟨rfl, hG, rfl⟩)
  · rw [if_pos c] at h
    have hP := kE _ (Option.some.inj h).symm
    exact ev_throwW (mc := 0) (ms := 0) th_P_undo_10 rfl (Nat.le_of_ble_eq_true rfl) (by rw [hP]; exact ⟨rfl, hG, rfl⟩)

/-- ProphecyShop.undoCount -/
def f_P_undoCount  (μ : Mem) : Option (Int32) :=
  some (μ 2 0 1)
set_option maxRecDepth 100000 in
set_option maxHeartbeats 4000000 in
theorem w_P_undoCount {g : GL} {F G : RG} {nx : Nat} (d : Nat)  {μ : Mem}   {o : Int32} (hG : LM vc 0 535 μ F G) (h : f_P_undoCount  μ = some o) : Mt g (d + 0) m_P_undoCount [.inr (0, off 12 0)] (G, nx) 0 0 (pRO (rI o) (G, nx)) := by
  unfold f_P_undoCount at h
  have kE : ∀ v, o = v → pRO (rI o) (G, nx) = pRO (rI v) (G, nx) := fun v e => by rw [e]
  refine Mt.of9 [some (.inr (0, off 12 0))] (by decide +kernel) rfl rfl rfl rfl ?_
  refine ev_aload_n (k0 := 0) rfl d_P_undoCount_0 ?_
  refine cv_get9 (.inr (0, off 2 0)) hG v_12 fg_ProphecyShop_57_12 rfl rfl d_P_undoCount_1 ?_
  refine cv_get9 (.inl (.int (μ 2 0 1))) hG v_2 fg_ProphecyShop_348_2 rfl rfl d_P_undoCount_4 ?_
  have hP := kE _ (Option.some.inj h).symm
  exact ev_ireturn (st := []) rfl rfl d_P_undoCount_7 (by rw [hP]; exact ⟨rfl, rfl⟩)

/-- ProphecyShopModel.in -/
def f_R_in (x0 : Int32) (x1 : Int32) (x2 : Int32) (μ : Mem) : Option (Int32) :=
  if x0 < x1 then some 0 else (if x2 < x0 then some 0 else (some 1))
set_option maxRecDepth 100000 in
set_option maxHeartbeats 4000000 in
theorem w_R_in {g : GL} {F G : RG} {nx : Nat} (d : Nat) {x0 : Int32} {x1 : Int32} {x2 : Int32} {μ : Mem}   {o : Int32} (hG : LM vr 535 547 μ F G) (h : f_R_in x0 x1 x2 μ = some o) : Mt g (d + 0) m_R_in [.inl (.int x0), .inl (.int x1), .inl (.int x2)] (G, nx) 0 0 (pRO (rI o) (G, nx)) := by
  unfold f_R_in at h
  have kE : ∀ v, o = v → pRO (rI o) (G, nx) = pRO (rI v) (G, nx) := fun v e => by rw [e]
  refine Mt.of9 [some (.inl (.int x0)), some (.inl (.int x1)), some (.inl (.int x2))] (by decide +kernel) rfl rfl rfl rfl ?_
  refine ev_iload_n (k0 := 1) rfl d_R_in_0 ?_
  refine ev_iload_n (k0 := 0) rfl d_R_in_1 ?_
  refine ev_icmp_gt (tgt := 14) (by decide) d_R_in_2 (fun c => ?_) (fun c => ?_)
  · rw [if_pos c] at h
    refine cw_iconst 0 d_R_in_14 rfl ?_
    have hP := kE _ (Option.some.inj h).symm
    exact ev_ireturn (st := []) rfl rfl d_R_in_15 (by rw [hP]; exact ⟨rfl, rfl⟩)
  · rw [if_neg c] at h
    refine ev_iload_n (k0 := 0) rfl d_R_in_5 ?_
    refine ev_iload_n (k0 := 2) rfl d_R_in_6 ?_
    refine ev_icmp_gt (tgt := 14) (by decide) d_R_in_7 (fun c => ?_) (fun c => ?_)
    · rw [if_pos c] at h
      refine cw_iconst 0 d_R_in_14 rfl ?_
      have hP := kE _ (Option.some.inj h).symm
      exact ev_ireturn (st := []) rfl rfl d_R_in_15 (by rw [hP]; exact ⟨rfl, rfl⟩)
    · rw [if_neg c] at h
      refine cw_iconst 1 d_R_in_10 rfl ?_
      refine ev_goto (tgt := 15) (by decide) d_R_in_11 ?_
      have hP := kE _ (Option.some.inj h).symm
      exact ev_ireturn (st := []) rfl rfl d_R_in_15 (by rw [hP]; exact ⟨rfl, rfl⟩)

/-- ProphecyShopModel.right -/
def f_R_right (x1 : Int32) (x2 : Int32) (μ : Mem) : Option (Int32 × Mem) :=
  ((if (μ 13 0 7) = 0 then (if x1 = 0 then (nm (st3 μ 13 0 7 x2) (fun μ2 => some (μ2))) else (some (μ))) else (some (μ)) : Option (Mem))).bind (fun q1 => if (q1 13 0 7) = 0 then (some ((1, q1))) else (some ((0, q1))))
set_option maxRecDepth 100000 in
set_option maxHeartbeats 4000000 in
theorem w_R_right {g : GL} {F G : RG} {nx : Nat} (d : Nat) {x1 : Int32} {x2 : Int32} {μ : Mem}   {o : Int32 × Mem} (hG : LM vr 535 547 μ F G) (h : f_R_right x1 x2 μ = some o) : Mt g (d + 0) m_R_right [.inr (0, off 13 0), .inl (.int x1), .inl (.int x2)] (G, nx) 0 0 (pRW vr 535 547 (rI o.1) o.2 F nx) := by
  unfold f_R_right at h
  have kE : ∀ v, o = v → pRW vr 535 547 (rI o.1) o.2 F nx = pRW vr 535 547 (rI v.1) v.2 F nx := fun v e => by rw [e]
  refine Mt.of9 [some (.inr (0, off 13 0)), some (.inl (.int x1)), some (.inl (.int x2))] (by decide +kernel) rfl rfl rfl rfl ?_
  refine ev_aload_n (k0 := 0) rfl d_R_right_0 ?_
  refine cv_get9 (.inl (.int (μ 13 0 7))) hG v_13 fg_ProphecyShopModel_73_13 rfl rfl d_R_right_1 ?_
  obtain ⟨q1, hj, h⟩ := bind_some9 h
  have K_q1 : ∀ G, LM vr 535 547 q1 F G → Ev g (d + 0) m_R_right 16 [some (.inr (0, off 13 0)), none, none] [] (G, nx) 0 0 (pRW vr 535 547 (rI o.1) o.2 F nx) := by
    intro G hG
    refine ev_aload_n (k0 := 0) rfl d_R_right_16 ?_
    refine cv_get9 (.inl (.int (q1 13 0 7))) hG v_13 fg_ProphecyShopModel_73_13 rfl rfl d_R_right_17 ?_
    refine ev_if_ne (tgt := 27) (by decide) d_R_right_20 (fun c => ?_) (fun c => ?_)
    · rw [if_neg c] at h
      refine cw_iconst 0 d_R_right_27 rfl ?_
      have hP := kE _ (Option.some.inj h).symm
      exact ev_ireturn (st := []) rfl rfl d_R_right_28 (by rw [hP]; exact ⟨rfl, hG, rfl⟩)
    · rw [if_pos c] at h
      refine cw_iconst 1 d_R_right_23 rfl ?_
      refine ev_goto (tgt := 28) (by decide) d_R_right_24 ?_
      have hP := kE _ (Option.some.inj h).symm
      exact ev_ireturn (st := []) rfl rfl d_R_right_28 (by rw [hP]; exact ⟨rfl, hG, rfl⟩)
  clear h
  have h := hj
  refine ev_if_ne (tgt := 16) (by decide) d_R_right_4 (fun c => ?_) (fun c => ?_)
  · rw [if_neg c] at h
    obtain rfl := Option.some.inj h
    exact Ev.sub (.s (.n (.n LSb.z))) (K_q1 G hG)
  · rw [if_pos c] at h
    refine ev_iload_n (k0 := 1) rfl d_R_right_7 ?_
    refine ev_if_ne (tgt := 16) (by decide) d_R_right_8 (fun c => ?_) (fun c => ?_)
    · rw [if_neg c] at h
      obtain rfl := Option.some.inj h
      exact Ev.sub (.s (.n (.n LSb.z))) (K_q1 G hG)
    · rw [if_pos c] at h
      refine ev_aload_n (k0 := 0) rfl d_R_right_11 ?_
      refine ev_iload_n (k0 := 2) rfl d_R_right_12 ?_
      obtain ⟨μ2, e_μ2, h⟩ := nm_some h
      refine cv_put (.inl (.int x2)) x2 hG okR v_13 fl_ProphecyShopModel_73_13 rfl rfl okv_int d_R_right_13 ?_
      intro G hG; rw [← e_μ2] at hG
      obtain rfl := Option.some.inj h
      exact Ev.sub (.s (.n (.n LSb.z))) (K_q1 G hG)

/-- ProphecyShopModel.keeps -/
def s_R_keeps_52  (x1 : Int32) (μ : Mem) : Option ((Int32 × Mem) ⊕ (Mem)) :=
  if (524 : Int32) ≤ x1 then (some (.inr μ)) else (chk (inb x1 524) (chk (inb ((524 * (μ 13 0 6)) + x1) 4192) (nm (st3 μ 43 0 ((524 * (μ 13 0 6)) + x1).toNatClampNeg (μ 40 0 x1.toNatClampNeg)) (fun μ3 => some (.inl ((x1 + 1, μ3)))))))
def s_R_keeps_11  (x1 : Int32) (μ : Mem) : Option ((Int32 × Mem) ⊕ (Mem)) :=
  if (3668 : Int32) ≤ x1 then (some (.inr μ)) else (chk (inb (x1 + 524) 4192) (chk (inb x1 4192) (nm (st3 μ 43 0 x1.toNatClampNeg (μ 43 0 (x1 + 524).toNatClampNeg)) (fun μ3 => some (.inl ((x1 + 1, μ3)))))))
def f_R_keeps  (μ : Mem) : Option (Mem) :=
  ((if (μ 13 0 6) = 8 then ((it (fun (s : Int32 × Mem) => s_R_keeps_11 s.1 s.2) LIM ((0, μ))).bind (fun q4 => nm (st3 q4 13 0 6 ((q4 13 0 6) - 1)) (fun μ5 => some (μ5)))) else (some (μ)) : Option (Mem))).bind (fun q1 => (it (fun (s : Int32 × Mem) => s_R_keeps_52 s.1 s.2) LIM ((0, q1))).bind (fun q2 => nm (st3 q2 13 0 6 ((q2 13 0 6) + 1)) (fun μ3 => some μ3)))
set_option maxRecDepth 100000 in
set_option maxHeartbeats 4000000 in
theorem ws_R_keeps_52 {g : GL} {F G : RG} {nx mc ms : Nat} {Post : RO → RM → Prop} (d : Nat)  {x1 : Int32} {μ : Mem}   {o : (Int32 × Mem) ⊕ (Mem)} (hG : LM vr 535 547 μ F G) (h : s_R_keeps_52  x1 μ = some o)
    (kC : ∀ s', o = .inl s' → ∀ G, LM vr 535 547 s'.2 F G → Ev g (d + 0) m_R_keeps 52 [some (.inr (0, off 13 0)), some (.inl (.int s'.1))] [] (G, nx) mc ms Post)
    (kX : ∀ r, o = .inr r → ∀ G, LM vr 535 547 r F G → Ev g (d + 0) m_R_keeps 86 [some (.inr (0, off 13 0)), none] [] (G, nx) mc ms Post)
    : Ev g (d + 0) m_R_keeps 52 [some (.inr (0, off 13 0)), some (.inl (.int x1))] [] (G, nx) mc ms Post := by
  unfold s_R_keeps_52 at h
  refine ev_iload_n (k0 := 1) rfl d_R_keeps_52 ?_
  refine cw_sipush 524 d_R_keeps_53 rfl ?_
  refine ev_icmp_ge (tgt := 86) (by decide) d_R_keeps_56 (fun c => ?_) (fun c => ?_)
  · rw [if_pos c] at h
    exact Ev.sub (.s (.n LSb.z)) (kX _ (Option.some.inj h).symm G hG)
  · rw [if_neg c] at h
    refine ev_aload_n (k0 := 0) rfl d_R_keeps_59 ?_
    refine cv_get9 (.inr (0, off 43 0)) hG v_13 fg_ProphecyShopModel_19_13 rfl rfl d_R_keeps_60 ?_
    refine cw_sipush 524 d_R_keeps_63 rfl ?_
    refine ev_aload_n (k0 := 0) rfl d_R_keeps_66 ?_
    refine cv_get9 (.inl (.int (μ 13 0 6))) hG v_13 fg_ProphecyShopModel_233_13 rfl rfl d_R_keeps_67 ?_
    refine ev_imul d_R_keeps_70 ?_
    refine ev_iload_n (k0 := 1) rfl d_R_keeps_71 ?_
    refine ev_iadd d_R_keeps_72 ?_
    refine ev_aload_n (k0 := 0) rfl d_R_keeps_73 ?_
    refine cv_get9 (.inr (0, off 40 0)) hG v_13 fg_ProphecyShopModel_7_13 rfl rfl d_R_keeps_74 ?_
    refine ev_iload_n (k0 := 1) rfl d_R_keeps_77 ?_
    refine Ev.at (pc' := 78) rfl ?_
    obtain ⟨b1, h⟩ := chk_some h
    refine cv_iald hG v_40 rfl rfl b1 rfl d_R_keeps_78 ?_
    obtain ⟨b2, h⟩ := chk_some h
    obtain ⟨μ3, e_μ3, h⟩ := nm_some h
    refine cv_iast hG okR v_43 rfl rfl b2 rfl d_R_keeps_79 ?_
    intro G hG; rw [← e_μ3] at hG
    refine cw_iincN 1 1 [some (.inr (0, off 13 0)), some (.inl (.int (x1 + 1)))] d_R_keeps_80 rfl rfl rfl rfl rfl ?_
    refine ev_goto (tgt := 52) (by decide) d_R_keeps_83 ?_
    exact kC _ (Option.some.inj h).symm G hG
set_option maxRecDepth 100000 in
set_option maxHeartbeats 4000000 in
theorem ws_R_keeps_11 {g : GL} {F G : RG} {nx mc ms : Nat} {Post : RO → RM → Prop} (d : Nat)  {x1 : Int32} {μ : Mem}   {o : (Int32 × Mem) ⊕ (Mem)} (hG : LM vr 535 547 μ F G) (h : s_R_keeps_11  x1 μ = some o)
    (kC : ∀ s', o = .inl s' → ∀ G, LM vr 535 547 s'.2 F G → Ev g (d + 0) m_R_keeps 11 [some (.inr (0, off 13 0)), some (.inl (.int s'.1))] [] (G, nx) mc ms Post)
    (kX : ∀ r, o = .inr r → ∀ G, LM vr 535 547 r F G → Ev g (d + 0) m_R_keeps 40 [some (.inr (0, off 13 0)), none] [] (G, nx) mc ms Post)
    : Ev g (d + 0) m_R_keeps 11 [some (.inr (0, off 13 0)), some (.inl (.int x1))] [] (G, nx) mc ms Post := by
  unfold s_R_keeps_11 at h
  refine ev_iload_n (k0 := 1) rfl d_R_keeps_11 ?_
  refine cw_sipush 3668 d_R_keeps_12 rfl ?_
  refine ev_icmp_ge (tgt := 40) (by decide) d_R_keeps_15 (fun c => ?_) (fun c => ?_)
  · rw [if_pos c] at h
    exact Ev.sub (.s (.n LSb.z)) (kX _ (Option.some.inj h).symm G hG)
  · rw [if_neg c] at h
    refine ev_aload_n (k0 := 0) rfl d_R_keeps_18 ?_
    refine cv_get9 (.inr (0, off 43 0)) hG v_13 fg_ProphecyShopModel_19_13 rfl rfl d_R_keeps_19 ?_
    refine ev_iload_n (k0 := 1) rfl d_R_keeps_22 ?_
    refine ev_aload_n (k0 := 0) rfl d_R_keeps_23 ?_
    refine cv_get9 (.inr (0, off 43 0)) hG v_13 fg_ProphecyShopModel_19_13 rfl rfl d_R_keeps_24 ?_
    refine ev_iload_n (k0 := 1) rfl d_R_keeps_27 ?_
    refine cw_sipush 524 d_R_keeps_28 rfl ?_
    refine ev_iadd d_R_keeps_31 ?_
    obtain ⟨b1, h⟩ := chk_some h
    refine cv_iald hG v_43 rfl rfl b1 rfl d_R_keeps_32 ?_
    obtain ⟨b2, h⟩ := chk_some h
    obtain ⟨μ3, e_μ3, h⟩ := nm_some h
    refine cv_iast hG okR v_43 rfl rfl b2 rfl d_R_keeps_33 ?_
    intro G hG; rw [← e_μ3] at hG
    refine cw_iincN 1 1 [some (.inr (0, off 13 0)), some (.inl (.int (x1 + 1)))] d_R_keeps_34 rfl rfl rfl rfl rfl ?_
    refine Ev.at (pc' := 37) rfl ?_
    refine ev_goto (tgt := 11) (by decide) d_R_keeps_37 ?_
    exact kC _ (Option.some.inj h).symm G hG
set_option maxRecDepth 100000 in
set_option maxHeartbeats 4000000 in
theorem w_R_keeps {g : GL} {F G : RG} {nx : Nat} (d : Nat)  {μ : Mem}   {o : Mem} (hG : LM vr 535 547 μ F G) (h : f_R_keeps  μ = some o) : Mt g (d + 0) m_R_keeps [.inr (0, off 13 0)] (G, nx) 0 0 (pRW vr 535 547 rV o F nx) := by
  unfold f_R_keeps at h
  have kE : ∀ v, o = v → pRW vr 535 547 rV o F nx = pRW vr 535 547 rV v F nx := fun v e => by rw [e]
  refine Mt.of9 [some (.inr (0, off 13 0)), none] (by decide +kernel) rfl rfl rfl rfl ?_
  refine ev_aload_n (k0 := 0) rfl d_R_keeps_0 ?_
  refine cv_get9 (.inl (.int (μ 13 0 6))) hG v_13 fg_ProphecyShopModel_233_13 rfl rfl d_R_keeps_1 ?_
  refine cw_bipush 8 d_R_keeps_4 rfl ?_
  obtain ⟨q1, hj, h⟩ := bind_some9 h
  have K_q1 : ∀ G, LM vr 535 547 q1 F G → Ev g (d + 0) m_R_keeps 50 [some (.inr (0, off 13 0)), none] [] (G, nx) 0 0 (pRW vr 535 547 rV o F nx) := by
    intro G hG
    refine cw_iconst 0 d_R_keeps_50 rfl ?_
    refine cw_istoreN_n 1 0 rfl [some (.inr (0, off 13 0)), some (.inl (.int 0))] d_R_keeps_51 rfl rfl rfl ?_
    obtain ⟨q2, hl, h⟩ := bind_some9 h
    refine it_ev (W := fun (s : Int32 × Mem) => ∀ G, LM vr 535 547 s.2 F G → Ev g (d + 0) m_R_keeps 52 [some (.inr (0, off 13 0)), some (.inl (.int s.1))] [] (G, nx) 0 0 (pRW vr 535 547 rV o F nx)) (X := fun z => z = q2) rfl (fun s9 o9 hs kC9 kX9 => ?_) LIM _ hl G hG
    intro G hG
    refine ws_R_keeps_52 d  hG hs kC9 (fun r_ e G hG => ?_)
    · obtain rfl := (kX9 _ e).symm
      refine ev_aload_n (k0 := 0) rfl d_R_keeps_86 ?_
      refine ev_dup rfl d_R_keeps_87 ?_
      refine cv_get9 (.inl (.int (q2 13 0 6))) hG v_13 fg_ProphecyShopModel_233_13 rfl rfl d_R_keeps_88 ?_
      refine cw_iconst 1 d_R_keeps_91 rfl ?_
      refine ev_iadd d_R_keeps_92 ?_
      obtain ⟨μ3, e_μ3, h⟩ := nm_some h
      refine cv_put (.inl (.int ((q2 13 0 6) + 1))) ((q2 13 0 6) + 1) hG okR v_13 fl_ProphecyShopModel_233_13 rfl rfl okv_int d_R_keeps_93 ?_
      intro G hG; rw [← e_μ3] at hG
      have hP := kE _ (Option.some.inj h).symm
      exact ev_return (st := []) rfl d_R_keeps_96 (by rw [hP]; exact ⟨rfl, hG, rfl⟩)
  clear h
  have h := hj
  refine ev_icmp_ne (tgt := 50) (by decide) d_R_keeps_6 (fun c => ?_) (fun c => ?_)
  · rw [if_neg c] at h
    obtain rfl := Option.some.inj h
    exact K_q1 G hG
  · rw [if_pos c] at h
    refine cw_iconst 0 d_R_keeps_9 rfl ?_
    refine cw_istoreN_n 1 0 rfl [some (.inr (0, off 13 0)), some (.inl (.int 0))] d_R_keeps_10 rfl rfl rfl ?_
    obtain ⟨q4, hl, h⟩ := bind_some9 h
    refine it_ev (W := fun (s : Int32 × Mem) => ∀ G, LM vr 535 547 s.2 F G → Ev g (d + 0) m_R_keeps 11 [some (.inr (0, off 13 0)), some (.inl (.int s.1))] [] (G, nx) 0 0 (pRW vr 535 547 rV o F nx)) (X := fun z => z = q4) rfl (fun s9 o9 hs kC9 kX9 => ?_) LIM _ hl G hG
    intro G hG
    refine ws_R_keeps_11 d  hG hs kC9 (fun r_ e G hG => ?_)
    · obtain rfl := (kX9 _ e).symm
      refine ev_aload_n (k0 := 0) rfl d_R_keeps_40 ?_
      refine ev_dup rfl d_R_keeps_41 ?_
      refine cv_get9 (.inl (.int (q4 13 0 6))) hG v_13 fg_ProphecyShopModel_233_13 rfl rfl d_R_keeps_42 ?_
      refine cw_iconst 1 d_R_keeps_45 rfl ?_
      refine ev_isub d_R_keeps_46 ?_
      obtain ⟨μ5, e_μ5, h⟩ := nm_some h
      refine cv_put (.inl (.int ((q4 13 0 6) - 1))) ((q4 13 0 6) - 1) hG okR v_13 fl_ProphecyShopModel_233_13 rfl rfl okv_int d_R_keeps_47 ?_
      intro G hG; rw [← e_μ5] at hG
      obtain rfl := Option.some.inj h
      exact K_q1 G hG

/-- ProphecyShopModel.changes -/
def f_R_changes  (μ : Mem) : Option (Mem) :=
  if (μ 13 0 22) = 0 then (((f_R_keeps μ)).bind (fun r1 => some r1)) else (some μ)
set_option maxRecDepth 100000 in
set_option maxHeartbeats 4000000 in
theorem w_R_changes {g : GL} {F G : RG} {nx : Nat} (d : Nat)  {μ : Mem}   {o : Mem} (hG : LM vr 535 547 μ F G) (h : f_R_changes  μ = some o) : Mt g (d + 1) m_R_changes [.inr (0, off 13 0)] (G, nx) 0 0 (pRW vr 535 547 rV o F nx) := by
  unfold f_R_changes at h
  have kE : ∀ v, o = v → pRW vr 535 547 rV o F nx = pRW vr 535 547 rV v F nx := fun v e => by rw [e]
  refine Mt.of9 [some (.inr (0, off 13 0))] (by decide +kernel) rfl rfl rfl rfl ?_
  refine ev_aload_n (k0 := 0) rfl d_R_changes_0 ?_
  refine cv_get9 (.inl (.int (μ 13 0 22))) hG v_13 fg_ProphecyShopModel_320_13 rfl rfl d_R_changes_1 ?_
  refine ev_if_ne (tgt := 11) (by decide) d_R_changes_4 (fun c => ?_) (fun c => ?_)
  · rw [if_neg c] at h
    have hP := kE _ (Option.some.inj h).symm
    exact ev_return (st := []) rfl d_R_changes_11 (by rw [hP]; exact ⟨rfl, hG, rfl⟩)
  · rw [if_pos c] at h
    refine ev_aload_n (k0 := 0) rfl d_R_changes_7 ?_
    obtain ⟨r1, hr1, h⟩ := bind_some9 h
    refine cv_V (d := d + 0) (mc1 := 0) (ms1 := 0) (mc := 0) (ms := 0) [] hG v_13 rfl lk_ProphecyShopModel_317 (w_R_keeps (d + 0) hG hr1) rfl rfl d_R_changes_8 (aft_rw (fun G hG => ?_))
    refine Ev.at (pc' := 11) rfl (Ev.cong (st' := []) ?_ rfl rfl)
    have hP := kE _ (Option.some.inj h).symm
    exact ev_return (st := []) rfl d_R_changes_11 (by rw [hP]; exact ⟨rfl, hG, rfl⟩)

/-- ProphecyShopModel.of -/
def f_R_of (x1 : Int32) (x2 : Int32) (μ : Mem) : Option (Int32) :=
  chk (inb ((80 + (10 * x1)) + x2) 524) (some (μ 40 0 ((80 + (10 * x1)) + x2).toNatClampNeg))
set_option maxRecDepth 100000 in
set_option maxHeartbeats 4000000 in
theorem w_R_of {g : GL} {F G : RG} {nx : Nat} (d : Nat) {x1 : Int32} {x2 : Int32} {μ : Mem}   {o : Int32} (hG : LM vr 535 547 μ F G) (h : f_R_of x1 x2 μ = some o) : Mt g (d + 0) m_R_of [.inr (0, off 13 0), .inl (.int x1), .inl (.int x2)] (G, nx) 0 0 (pRO (rI o) (G, nx)) := by
  unfold f_R_of at h
  have kE : ∀ v, o = v → pRO (rI o) (G, nx) = pRO (rI v) (G, nx) := fun v e => by rw [e]
  refine Mt.of9 [some (.inr (0, off 13 0)), some (.inl (.int x1)), some (.inl (.int x2))] (by decide +kernel) rfl rfl rfl rfl ?_
  refine ev_aload_n (k0 := 0) rfl d_R_of_0 ?_
  refine cv_get9 (.inr (0, off 40 0)) hG v_13 fg_ProphecyShopModel_7_13 rfl rfl d_R_of_1 ?_
  refine cw_bipush 80 d_R_of_4 rfl ?_
  refine cw_bipush 10 d_R_of_6 rfl ?_
  refine ev_iload_n (k0 := 1) rfl d_R_of_8 ?_
  refine ev_imul d_R_of_9 ?_
  refine ev_iadd d_R_of_10 ?_
  refine ev_iload_n (k0 := 2) rfl d_R_of_11 ?_
  refine ev_iadd d_R_of_12 ?_
  obtain ⟨b1, h⟩ := chk_some h
  refine cv_iald hG v_40 rfl rfl b1 rfl d_R_of_13 ?_
  have hP := kE _ (Option.some.inj h).symm
  exact ev_ireturn (st := []) rfl rfl d_R_of_14 (by rw [hP]; exact ⟨rfl, rfl⟩)

/-- ProphecyShopModel.puts -/
def f_R_puts (x1 : Int32) (x2 : Int32) (x3 : Int32) (μ : Mem) : Option (Mem) :=
  chk (inb ((80 + (10 * x1)) + x2) 524) (nm (st3 μ 40 0 ((80 + (10 * x1)) + x2).toNatClampNeg x3) (fun μ2 => some μ2))
set_option maxRecDepth 100000 in
set_option maxHeartbeats 4000000 in
theorem w_R_puts {g : GL} {F G : RG} {nx : Nat} (d : Nat) {x1 : Int32} {x2 : Int32} {x3 : Int32} {μ : Mem}   {o : Mem} (hG : LM vr 535 547 μ F G) (h : f_R_puts x1 x2 x3 μ = some o) : Mt g (d + 0) m_R_puts [.inr (0, off 13 0), .inl (.int x1), .inl (.int x2), .inl (.int x3)] (G, nx) 0 0 (pRW vr 535 547 rV o F nx) := by
  unfold f_R_puts at h
  have kE : ∀ v, o = v → pRW vr 535 547 rV o F nx = pRW vr 535 547 rV v F nx := fun v e => by rw [e]
  refine Mt.of9 [some (.inr (0, off 13 0)), some (.inl (.int x1)), some (.inl (.int x2)), some (.inl (.int x3))] (by decide +kernel) rfl rfl rfl rfl ?_
  refine ev_aload_n (k0 := 0) rfl d_R_puts_0 ?_
  refine cv_get9 (.inr (0, off 40 0)) hG v_13 fg_ProphecyShopModel_7_13 rfl rfl d_R_puts_1 ?_
  refine cw_bipush 80 d_R_puts_4 rfl ?_
  refine cw_bipush 10 d_R_puts_6 rfl ?_
  refine ev_iload_n (k0 := 1) rfl d_R_puts_8 ?_
  refine ev_imul d_R_puts_9 ?_
  refine ev_iadd d_R_puts_10 ?_
  refine ev_iload_n (k0 := 2) rfl d_R_puts_11 ?_
  refine ev_iadd d_R_puts_12 ?_
  refine ev_iload_n (k0 := 3) rfl d_R_puts_13 ?_
  obtain ⟨b1, h⟩ := chk_some h
  obtain ⟨μ2, e_μ2, h⟩ := nm_some h
  refine cv_iast hG okR v_40 rfl rfl b1 rfl d_R_puts_14 ?_
  intro G hG; rw [← e_μ2] at hG
  refine Ev.at (pc' := 15) rfl ?_
  have hP := kE _ (Option.some.inj h).symm
  exact ev_return (st := []) rfl d_R_puts_15 (by rw [hP]; exact ⟨rfl, hG, rfl⟩)

/-- ProphecyShopModel.decides -/
def f_R_decides (x1 : Int32) (x2 : Int32) (μ : Mem) : Option (Mem) :=
  ((if x2 = 0 then (some (2)) else (some (1)) : Option (Int32))).bind (fun q1 => ((f_R_puts x1 7 q1 μ)).bind (fun r2 => chk (inb 5 524) (((f_R_puts x1 8 (r2 40 0 (5 : Int32).toNatClampNeg) r2)).bind (fun r4 => some r4))))
set_option maxRecDepth 100000 in
set_option maxHeartbeats 4000000 in
theorem w_R_decides {g : GL} {F G : RG} {nx : Nat} (d : Nat) {x1 : Int32} {x2 : Int32} {μ : Mem}   {o : Mem} (hG : LM vr 535 547 μ F G) (h : f_R_decides x1 x2 μ = some o) : Mt g (d + 1) m_R_decides [.inr (0, off 13 0), .inl (.int x1), .inl (.int x2)] (G, nx) 0 0 (pRW vr 535 547 rV o F nx) := by
  unfold f_R_decides at h
  have kE : ∀ v, o = v → pRW vr 535 547 rV o F nx = pRW vr 535 547 rV v F nx := fun v e => by rw [e]
  refine Mt.of9 [some (.inr (0, off 13 0)), some (.inl (.int x1)), some (.inl (.int x2))] (by decide +kernel) rfl rfl rfl rfl ?_
  refine ev_aload_n (k0 := 0) rfl d_R_decides_0 ?_
  refine ev_iload_n (k0 := 1) rfl d_R_decides_1 ?_
  refine cw_bipush 7 d_R_decides_2 rfl ?_
  refine ev_iload_n (k0 := 2) rfl d_R_decides_4 ?_
  obtain ⟨q1, hj, h⟩ := bind_some9 h
  have K_q1 : Ev g (d + 1) m_R_decides 13 [some (.inr (0, off 13 0)), some (.inl (.int x1)), none] [.inl (.int q1), .inl (.int 7), .inl (.int x1), .inr (0, off 13 0)] (G, nx) 0 0 (pRW vr 535 547 rV o F nx) := by
    obtain ⟨r2, hr2, h⟩ := bind_some9 h
    refine cv_V (d := d + 0) (mc1 := 0) (ms1 := 0) (mc := 0) (ms := 0) [.inl (.int x1), .inl (.int 7), .inl (.int q1)] hG v_13 rfl lk_ProphecyShopModel_80 (w_R_puts (d + 0) hG hr2) rfl rfl d_R_decides_13 (aft_rw (fun G hG => ?_))
    refine Ev.at (pc' := 16) rfl (Ev.cong (st' := []) ?_ rfl rfl)
    refine ev_aload_n (k0 := 0) rfl d_R_decides_16 ?_
    refine ev_iload_n (k0 := 1) rfl d_R_decides_17 ?_
    refine cw_bipush 8 d_R_decides_18 rfl ?_
    refine ev_aload_n (k0 := 0) rfl d_R_decides_20 ?_
    refine cv_get9 (.inr (0, off 40 0)) hG v_13 fg_ProphecyShopModel_7_13 rfl rfl d_R_decides_21 ?_
    refine cw_iconst 5 d_R_decides_24 rfl ?_
    obtain ⟨b3, h⟩ := chk_some h
    refine cv_iald hG v_40 rfl rfl b3 rfl d_R_decides_25 ?_
    obtain ⟨r4, hr4, h⟩ := bind_some9 h
    refine cv_V (d := d + 0) (mc1 := 0) (ms1 := 0) (mc := 0) (ms := 0) [.inl (.int x1), .inl (.int 8), .inl (.int (r2 40 0 (5 : Int32).toNatClampNeg))] hG v_13 rfl lk_ProphecyShopModel_80 (w_R_puts (d + 0) hG hr4) rfl rfl d_R_decides_26 (aft_rw (fun G hG => ?_))
    refine Ev.at (pc' := 29) rfl (Ev.cong (st' := []) ?_ rfl rfl)
    have hP := kE _ (Option.some.inj h).symm
    exact ev_return (st := []) rfl d_R_decides_29 (by rw [hP]; exact ⟨rfl, hG, rfl⟩)
  clear h
  have h := hj
  refine ev_if_eq (tgt := 12) (by decide) d_R_decides_5 (fun c => ?_) (fun c => ?_)
  · rw [if_pos c] at h
    refine cw_iconst 2 d_R_decides_12 rfl ?_
    obtain rfl := Option.some.inj h
    exact Ev.sub (.s (.s (.n LSb.z))) (K_q1)
  · rw [if_neg c] at h
    refine cw_iconst 1 d_R_decides_8 rfl ?_
    refine ev_goto (tgt := 13) (by decide) d_R_decides_9 ?_
    obtain rfl := Option.some.inj h
    exact Ev.sub (.s (.s (.n LSb.z))) (K_q1)

/-- ProphecyShopModel.ofOwl -/
def f_R_ofOwl (x1 : Int32) (x2 : Int32) (μ : Mem) : Option (Int32) :=
  chk (inb ((52 + (5 * x1)) + x2) 524) (some (μ 40 0 ((52 + (5 * x1)) + x2).toNatClampNeg))
set_option maxRecDepth 100000 in
set_option maxHeartbeats 4000000 in
theorem w_R_ofOwl {g : GL} {F G : RG} {nx : Nat} (d : Nat) {x1 : Int32} {x2 : Int32} {μ : Mem}   {o : Int32} (hG : LM vr 535 547 μ F G) (h : f_R_ofOwl x1 x2 μ = some o) : Mt g (d + 0) m_R_ofOwl [.inr (0, off 13 0), .inl (.int x1), .inl (.int x2)] (G, nx) 0 0 (pRO (rI o) (G, nx)) := by
  unfold f_R_ofOwl at h
  have kE : ∀ v, o = v → pRO (rI o) (G, nx) = pRO (rI v) (G, nx) := fun v e => by rw [e]
  refine Mt.of9 [some (.inr (0, off 13 0)), some (.inl (.int x1)), some (.inl (.int x2))] (by decide +kernel) rfl rfl rfl rfl ?_
  refine ev_aload_n (k0 := 0) rfl d_R_ofOwl_0 ?_
  refine cv_get9 (.inr (0, off 40 0)) hG v_13 fg_ProphecyShopModel_7_13 rfl rfl d_R_ofOwl_1 ?_
  refine cw_bipush 52 d_R_ofOwl_4 rfl ?_
  refine cw_iconst 5 d_R_ofOwl_6 rfl ?_
  refine ev_iload_n (k0 := 1) rfl d_R_ofOwl_7 ?_
  refine ev_imul d_R_ofOwl_8 ?_
  refine ev_iadd d_R_ofOwl_9 ?_
  refine ev_iload_n (k0 := 2) rfl d_R_ofOwl_10 ?_
  refine ev_iadd d_R_ofOwl_11 ?_
  obtain ⟨b1, h⟩ := chk_some h
  refine cv_iald hG v_40 rfl rfl b1 rfl d_R_ofOwl_12 ?_
  have hP := kE _ (Option.some.inj h).symm
  exact ev_ireturn (st := []) rfl rfl d_R_ofOwl_13 (by rw [hP]; exact ⟨rfl, rfl⟩)

/-- ProphecyShopModel.putOwl -/
def f_R_putOwl (x1 : Int32) (x2 : Int32) (x3 : Int32) (μ : Mem) : Option (Mem) :=
  chk (inb ((52 + (5 * x1)) + x2) 524) (nm (st3 μ 40 0 ((52 + (5 * x1)) + x2).toNatClampNeg x3) (fun μ2 => some μ2))
set_option maxRecDepth 100000 in
set_option maxHeartbeats 4000000 in
theorem w_R_putOwl {g : GL} {F G : RG} {nx : Nat} (d : Nat) {x1 : Int32} {x2 : Int32} {x3 : Int32} {μ : Mem}   {o : Mem} (hG : LM vr 535 547 μ F G) (h : f_R_putOwl x1 x2 x3 μ = some o) : Mt g (d + 0) m_R_putOwl [.inr (0, off 13 0), .inl (.int x1), .inl (.int x2), .inl (.int x3)] (G, nx) 0 0 (pRW vr 535 547 rV o F nx) := by
  unfold f_R_putOwl at h
  have kE : ∀ v, o = v → pRW vr 535 547 rV o F nx = pRW vr 535 547 rV v F nx := fun v e => by rw [e]
  refine Mt.of9 [some (.inr (0, off 13 0)), some (.inl (.int x1)), some (.inl (.int x2)), some (.inl (.int x3))] (by decide +kernel) rfl rfl rfl rfl ?_
  refine ev_aload_n (k0 := 0) rfl d_R_putOwl_0 ?_
  refine cv_get9 (.inr (0, off 40 0)) hG v_13 fg_ProphecyShopModel_7_13 rfl rfl d_R_putOwl_1 ?_
  refine cw_bipush 52 d_R_putOwl_4 rfl ?_
  refine cw_iconst 5 d_R_putOwl_6 rfl ?_
  refine ev_iload_n (k0 := 1) rfl d_R_putOwl_7 ?_
  refine ev_imul d_R_putOwl_8 ?_
  refine ev_iadd d_R_putOwl_9 ?_
  refine ev_iload_n (k0 := 2) rfl d_R_putOwl_10 ?_
  refine ev_iadd d_R_putOwl_11 ?_
  refine ev_iload_n (k0 := 3) rfl d_R_putOwl_12 ?_
  obtain ⟨b1, h⟩ := chk_some h
  obtain ⟨μ2, e_μ2, h⟩ := nm_some h
  refine cv_iast hG okR v_40 rfl rfl b1 rfl d_R_putOwl_13 ?_
  intro G hG; rw [← e_μ2] at hG
  refine Ev.at (pc' := 14) rfl ?_
  have hP := kE _ (Option.some.inj h).symm
  exact ev_return (st := []) rfl d_R_putOwl_14 (by rw [hP]; exact ⟨rfl, hG, rfl⟩)

/-- ProphecyShopModel.lands -/
def f_R_lands (x1 : Int32) (μ : Mem) : Option (Mem) :=
  ((f_R_ofOwl x1 3 μ)).bind (fun r1 => if r1 = ((-1)) then some μ else (chk (inb ((28 + (3 * r1)) + 1) 524) (((f_R_ofOwl x1 2 μ)).bind (fun r3 => chk (inb ((28 + (3 * r1)) + 1) 524) (nm (st3 μ 40 0 ((28 + (3 * r1)) + 1).toNatClampNeg ((μ 40 0 ((28 + (3 * r1)) + 1).toNatClampNeg) + r3)) (fun μ5 => ((f_R_putOwl x1 2 0 μ5)).bind (fun r6 => ((f_R_putOwl x1 3 (-1) r6)).bind (fun r7 => ((f_R_ofOwl x1 4 r7)).bind (fun r8 => ((f_R_putOwl x1 1 r8 r7)).bind (fun r9 => some r9))))))))))
set_option maxRecDepth 100000 in
set_option maxHeartbeats 4000000 in
theorem w_R_lands {g : GL} {F G : RG} {nx : Nat} (d : Nat) {x1 : Int32} {μ : Mem}   {o : Mem} (hG : LM vr 535 547 μ F G) (h : f_R_lands x1 μ = some o) : Mt g (d + 1) m_R_lands [.inr (0, off 13 0), .inl (.int x1)] (G, nx) 0 0 (pRW vr 535 547 rV o F nx) := by
  unfold f_R_lands at h
  have kE : ∀ v, o = v → pRW vr 535 547 rV o F nx = pRW vr 535 547 rV v F nx := fun v e => by rw [e]
  refine Mt.of9 [some (.inr (0, off 13 0)), some (.inl (.int x1)), none] (by decide +kernel) rfl rfl rfl rfl ?_
  refine ev_aload_n (k0 := 0) rfl d_R_lands_0 ?_
  refine ev_iload_n (k0 := 1) rfl d_R_lands_1 ?_
  refine cw_iconst 3 d_R_lands_2 rfl ?_
  obtain ⟨r1, hr1, h⟩ := bind_some9 h
  refine cv_V (d := d + 0) (mc1 := 0) (ms1 := 0) (mc := 0) (ms := 0) [.inl (.int x1), .inl (.int 3)] hG v_13 rfl lk_ProphecyShopModel_95 (w_R_ofOwl (d + 0) hG hr1) rfl rfl d_R_lands_3 (aft_ro ?_)
  refine Ev.at (pc' := 6) rfl (Ev.cong (st' := [.inl (.int r1)]) ?_ rfl rfl)
  refine cw_istoreN_n 2 r1 rfl [some (.inr (0, off 13 0)), some (.inl (.int x1)), some (.inl (.int r1))] d_R_lands_6 rfl rfl rfl ?_
  refine ev_iload_n (k0 := 2) rfl d_R_lands_7 ?_
  refine cw_iconst (-1) d_R_lands_8 rfl ?_
  refine ev_icmp_ne (tgt := 13) (by decide) d_R_lands_9 (fun c => ?_) (fun c => ?_)
  · rw [if_neg c] at h
    refine ev_aload_n (k0 := 0) rfl d_R_lands_13 ?_
    refine cv_get9 (.inr (0, off 40 0)) hG v_13 fg_ProphecyShopModel_7_13 rfl rfl d_R_lands_14 ?_
    refine cw_bipush 28 d_R_lands_17 rfl ?_
    refine cw_iconst 3 d_R_lands_19 rfl ?_
    refine ev_iload_n (k0 := 2) rfl d_R_lands_20 ?_
    refine ev_imul d_R_lands_21 ?_
    refine ev_iadd d_R_lands_22 ?_
    refine cw_iconst 1 d_R_lands_23 rfl ?_
    refine ev_iadd d_R_lands_24 ?_
    refine ev_dup2 rfl rfl d_R_lands_25 ?_
    obtain ⟨b2, h⟩ := chk_some h
    refine cv_iald hG v_40 rfl rfl b2 rfl d_R_lands_26 ?_
    refine Ev.at (pc' := 27) rfl ?_
    refine ev_aload_n (k0 := 0) rfl d_R_lands_27 ?_
    refine ev_iload_n (k0 := 1) rfl d_R_lands_28 ?_
    refine cw_iconst 2 d_R_lands_29 rfl ?_
    obtain ⟨r3, hr3, h⟩ := bind_some9 h
    refine cv_V (d := d + 0) (mc1 := 0) (ms1 := 0) (mc := 0) (ms := 0) [.inl (.int x1), .inl (.int 2)] hG v_13 rfl lk_ProphecyShopModel_95 (w_R_ofOwl (d + 0) hG hr3) rfl rfl d_R_lands_30 (aft_ro ?_)
    refine Ev.at (pc' := 33) rfl (Ev.cong (st' := [.inl (.int r3), .inl (.int (μ 40 0 ((28 + (3 * r1)) + 1).toNatClampNeg)), .inl (.int ((28 + (3 * r1)) + 1)), .inr (0, off 40 0)]) ?_ rfl rfl)
    refine ev_iadd d_R_lands_33 ?_
    obtain ⟨b4, h⟩ := chk_some h
    obtain ⟨μ5, e_μ5, h⟩ := nm_some h
    refine cv_iast hG okR v_40 rfl rfl b4 rfl d_R_lands_34 ?_
    intro G hG; rw [← e_μ5] at hG
    refine ev_aload_n (k0 := 0) rfl d_R_lands_35 ?_
    refine ev_iload_n (k0 := 1) rfl d_R_lands_36 ?_
    refine cw_iconst 2 d_R_lands_37 rfl ?_
    refine cw_iconst 0 d_R_lands_38 rfl ?_
    obtain ⟨r6, hr6, h⟩ := bind_some9 h
    refine cv_V (d := d + 0) (mc1 := 0) (ms1 := 0) (mc := 0) (ms := 0) [.inl (.int x1), .inl (.int 2), .inl (.int 0)] hG v_13 rfl lk_ProphecyShopModel_104 (w_R_putOwl (d + 0) hG hr6) rfl rfl d_R_lands_39 (aft_rw (fun G hG => ?_))
    refine Ev.at (pc' := 42) rfl (Ev.cong (st' := []) ?_ rfl rfl)
    refine ev_aload_n (k0 := 0) rfl d_R_lands_42 ?_
    refine ev_iload_n (k0 := 1) rfl d_R_lands_43 ?_
    refine cw_iconst 3 d_R_lands_44 rfl ?_
    refine cw_iconst (-1) d_R_lands_45 rfl ?_
    obtain ⟨r7, hr7, h⟩ := bind_some9 h
    refine cv_V (d := d + 0) (mc1 := 0) (ms1 := 0) (mc := 0) (ms := 0) [.inl (.int x1), .inl (.int 3), .inl (.int ((-1)))] hG v_13 rfl lk_ProphecyShopModel_104 (w_R_putOwl (d + 0) hG hr7) rfl rfl d_R_lands_46 (aft_rw (fun G hG => ?_))
    refine Ev.at (pc' := 49) rfl (Ev.cong (st' := []) ?_ rfl rfl)
    refine ev_aload_n (k0 := 0) rfl d_R_lands_49 ?_
    refine ev_iload_n (k0 := 1) rfl d_R_lands_50 ?_
    refine cw_iconst 1 d_R_lands_51 rfl ?_
    refine ev_aload_n (k0 := 0) rfl d_R_lands_52 ?_
    refine ev_iload_n (k0 := 1) rfl d_R_lands_53 ?_
    refine cw_iconst 4 d_R_lands_54 rfl ?_
    obtain ⟨r8, hr8, h⟩ := bind_some9 h
    refine cv_V (d := d + 0) (mc1 := 0) (ms1 := 0) (mc := 0) (ms := 0) [.inl (.int x1), .inl (.int 4)] hG v_13 rfl lk_ProphecyShopModel_95 (w_R_ofOwl (d + 0) hG hr8) rfl rfl d_R_lands_55 (aft_ro ?_)
    refine Ev.at (pc' := 58) rfl (Ev.cong (st' := [.inl (.int r8), .inl (.int 1), .inl (.int x1), .inr (0, off 13 0)]) ?_ rfl rfl)
    obtain ⟨r9, hr9, h⟩ := bind_some9 h
    refine cv_V (d := d + 0) (mc1 := 0) (ms1 := 0) (mc := 0) (ms := 0) [.inl (.int x1), .inl (.int 1), .inl (.int r8)] hG v_13 rfl lk_ProphecyShopModel_104 (w_R_putOwl (d + 0) hG hr9) rfl rfl d_R_lands_58 (aft_rw (fun G hG => ?_))
    refine Ev.at (pc' := 61) rfl (Ev.cong (st' := []) ?_ rfl rfl)
    have hP := kE _ (Option.some.inj h).symm
    exact ev_return (st := []) rfl d_R_lands_61 (by rw [hP]; exact ⟨rfl, hG, rfl⟩)
  · rw [if_pos c] at h
    have hP := kE _ (Option.some.inj h).symm
    exact ev_return (st := []) rfl d_R_lands_12 (by rw [hP]; exact ⟨rfl, hG, rfl⟩)

/-- ProphecyShopModel.refund -/
def f_R_refund (x1 : Int32) (μ : Mem) : Option (Int32) :=
  ((f_R_of x1 6 μ)).bind (fun r1 => ((f_R_of x1 2 μ)).bind (fun r2 => if r2 = ((-1)) then (chk (inb 4 524) (some ((r1 * (μ 40 0 (4 : Int32).toNatClampNeg)) / 100))) else (chk (inb 3 524) (some ((r1 * (μ 40 0 (3 : Int32).toNatClampNeg)) / 100)))))
set_option maxRecDepth 100000 in
set_option maxHeartbeats 4000000 in
theorem w_R_refund {g : GL} {F G : RG} {nx : Nat} (d : Nat) {x1 : Int32} {μ : Mem}   {o : Int32} (hG : LM vr 535 547 μ F G) (h : f_R_refund x1 μ = some o) : Mt g (d + 1) m_R_refund [.inr (0, off 13 0), .inl (.int x1)] (G, nx) 0 0 (pRO (rI o) (G, nx)) := by
  unfold f_R_refund at h
  have kE : ∀ v, o = v → pRO (rI o) (G, nx) = pRO (rI v) (G, nx) := fun v e => by rw [e]
  refine Mt.of9 [some (.inr (0, off 13 0)), some (.inl (.int x1))] (by decide +kernel) rfl rfl rfl rfl ?_
  refine ev_aload_n (k0 := 0) rfl d_R_refund_0 ?_
  refine ev_iload_n (k0 := 1) rfl d_R_refund_1 ?_
  refine cw_bipush 6 d_R_refund_2 rfl ?_
  obtain ⟨r1, hr1, h⟩ := bind_some9 h
  refine cv_V (d := d + 0) (mc1 := 0) (ms1 := 0) (mc := 0) (ms := 0) [.inl (.int x1), .inl (.int 6)] hG v_13 rfl lk_ProphecyShopModel_84 (w_R_of (d + 0) hG hr1) rfl rfl d_R_refund_4 (aft_ro ?_)
  refine Ev.at (pc' := 7) rfl (Ev.cong (st' := [.inl (.int r1)]) ?_ rfl rfl)
  refine ev_aload_n (k0 := 0) rfl d_R_refund_7 ?_
  refine cv_get9 (.inr (0, off 40 0)) hG v_13 fg_ProphecyShopModel_7_13 rfl rfl d_R_refund_8 ?_
  refine ev_aload_n (k0 := 0) rfl d_R_refund_11 ?_
  refine ev_iload_n (k0 := 1) rfl d_R_refund_12 ?_
  refine cw_iconst 2 d_R_refund_13 rfl ?_
  obtain ⟨r2, hr2, h⟩ := bind_some9 h
  refine cv_V (d := d + 0) (mc1 := 0) (ms1 := 0) (mc := 0) (ms := 0) [.inl (.int x1), .inl (.int 2)] hG v_13 rfl lk_ProphecyShopModel_84 (w_R_of (d + 0) hG hr2) rfl rfl d_R_refund_14 (aft_ro ?_)
  refine Ev.at (pc' := 17) rfl (Ev.cong (st' := [.inl (.int r2), .inr (0, off 40 0), .inl (.int r1)]) ?_ rfl rfl)
  refine cw_iconst (-1) d_R_refund_17 rfl ?_
  refine ev_icmp_ne (tgt := 25) (by decide) d_R_refund_18 (fun c => ?_) (fun c => ?_)
  · rw [if_neg c] at h
    refine cw_iconst 3 d_R_refund_25 rfl ?_
    obtain ⟨b3, h⟩ := chk_some h
    refine cv_iald hG v_40 rfl rfl b3 rfl d_R_refund_26 ?_
    refine ev_imul d_R_refund_27 ?_
    refine cw_bipush 100 d_R_refund_28 rfl ?_
    refine ev_idiv (by decide) d_R_refund_30 ?_
    have hP := kE _ (Option.some.inj h).symm
    exact ev_ireturn (st := []) rfl rfl d_R_refund_31 (by rw [hP]; exact ⟨rfl, rfl⟩)
  · rw [if_pos c] at h
    refine cw_iconst 4 d_R_refund_21 rfl ?_
    refine ev_goto (tgt := 26) (by decide) d_R_refund_22 ?_
    obtain ⟨b4, h⟩ := chk_some h
    refine cv_iald hG v_40 rfl rfl b4 rfl d_R_refund_26 ?_
    refine ev_imul d_R_refund_27 ?_
    refine cw_bipush 100 d_R_refund_28 rfl ?_
    refine ev_idiv (by decide) d_R_refund_30 ?_
    have hP := kE _ (Option.some.inj h).symm
    exact ev_ireturn (st := []) rfl rfl d_R_refund_31 (by rw [hP]; exact ⟨rfl, rfl⟩)

/-- ProphecyShop$Prophecy.isAbout -/
def f_Prophecy_isAbout (j0 : Nat) (x1 : Int32) (x2 : Int32) (μ : Mem) : Option (Int32) :=
  if (μ 5 j0 2) = x1 then (if (μ 5 j0 1) = 1 then some 1 else (if (μ 5 j0 3) = x2 then some 1 else (some 0))) else (some 0)
set_option maxRecDepth 100000 in
set_option maxHeartbeats 4000000 in
theorem w_Prophecy_isAbout {g : GL} {F G : RG} {nx : Nat} (d : Nat) {j0 : Nat} {x1 : Int32} {x2 : Int32} {μ : Mem} (hv0 : vc 5 j0)  {o : Int32} (hG : LM vc 0 535 μ F G) (h : f_Prophecy_isAbout j0 x1 x2 μ = some o) : Mt g (d + 0) m_Prophecy_isAbout [.inr (0, off 5 j0), .inl (.int x1), .inl (.int x2)] (G, nx) 0 0 (pRO (rI o) (G, nx)) := by
  unfold f_Prophecy_isAbout at h
  have kE : ∀ v, o = v → pRO (rI o) (G, nx) = pRO (rI v) (G, nx) := fun v e => by subst e; rfl
  refine Mt.of9 [some (.inr (0, off 5 j0)), some (.inl (.int x1)), some (.inl (.int x2))] (by decide +kernel) rfl rfl rfl rfl ?_
  refine ev_aload_n (k0 := 0) rfl d_Prophecy_isAbout_0 ?_
  refine cv_get9 (.inl (.int (μ 5 j0 2))) hG hv0 fg_Prophecy_18_5 rfl rfl d_Prophecy_isAbout_1 ?_
  refine ev_iload_n (k0 := 1) rfl d_Prophecy_isAbout_4 ?_
  refine ev_icmp_ne (tgt := 28) (by decide) d_Prophecy_isAbout_5 (fun c => ?_) (fun c => ?_)
  · rw [if_neg c] at h
    refine cw_iconst 0 d_Prophecy_isAbout_28 rfl ?_
    have hP := kE _ (Option.some.inj h).symm
    exact ev_ireturn (st := []) rfl rfl d_Prophecy_isAbout_29 (by rw [hP]; exact ⟨rfl, rfl⟩)
  · rw [if_pos c] at h
    refine ev_aload_n (k0 := 0) rfl d_Prophecy_isAbout_8 ?_
    refine cv_get9 (.inl (.int (μ 5 j0 1))) hG hv0 fg_Prophecy_15_5 rfl rfl d_Prophecy_isAbout_9 ?_
    refine cw_iconst 1 d_Prophecy_isAbout_12 rfl ?_
    refine ev_icmp_eq (tgt := 24) (by decide) d_Prophecy_isAbout_13 (fun c => ?_) (fun c => ?_)
    · rw [if_pos c] at h
      refine cw_iconst 1 d_Prophecy_isAbout_24 rfl ?_
      refine ev_goto (tgt := 29) (by decide) d_Prophecy_isAbout_25 ?_
      have hP := kE _ (Option.some.inj h).symm
      exact ev_ireturn (st := []) rfl rfl d_Prophecy_isAbout_29 (by rw [hP]; exact ⟨rfl, rfl⟩)
    · rw [if_neg c] at h
      refine ev_aload_n (k0 := 0) rfl d_Prophecy_isAbout_16 ?_
      refine cv_get9 (.inl (.int (μ 5 j0 3))) hG hv0 fg_Prophecy_21_5 rfl rfl d_Prophecy_isAbout_17 ?_
      refine ev_iload_n (k0 := 2) rfl d_Prophecy_isAbout_20 ?_
      refine ev_icmp_ne (tgt := 28) (by decide) d_Prophecy_isAbout_21 (fun c => ?_) (fun c => ?_)
      · rw [if_neg c] at h
        refine cw_iconst 0 d_Prophecy_isAbout_28 rfl ?_
        have hP := kE _ (Option.some.inj h).symm
        exact ev_ireturn (st := []) rfl rfl d_Prophecy_isAbout_29 (by rw [hP]; exact ⟨rfl, rfl⟩)
      · rw [if_pos c] at h
        refine cw_iconst 1 d_Prophecy_isAbout_24 rfl ?_
        refine ev_goto (tgt := 29) (by decide) d_Prophecy_isAbout_25 ?_
        have hP := kE _ (Option.some.inj h).symm
        exact ev_ireturn (st := []) rfl rfl d_Prophecy_isAbout_29 (by rw [hP]; exact ⟨rfl, rfl⟩)

/-- ProphecyShop$Shop.noteHappening -/
def s_Shop_noteHappening_57 (j0 : Nat) (x1 : Int32) (x2 : Int32) (x3 : Int32) (x4 : Int32) (μ : Mem) : Option ((Int32 × Int32 × Mem) ⊕ (Int32 × Mem)) :=
  if (μ 9 j0 5) ≤ x4 then (some (.inr ((x3, μ)))) else (chk (inb x4 24) (if (μ 5 (24 * j0 + x4.toNatClampNeg) 7) = 0 then (chk (inb x4 24) (if (μ 9 j0 1) < (μ 5 (24 * j0 + x4.toNatClampNeg) 4) then (some (.inl ((x3, x4 + 1, μ)))) else (chk (inb x4 24) (((f_Prophecy_isAbout (24 * j0 + x4.toNatClampNeg) x1 x2 μ)).bind (fun r4 => if r4 = 0 then (some (.inl ((x3, x4 + 1, μ)))) else (chk (inb x4 24) (((f_Prophecy_decide (24 * j0 + x4.toNatClampNeg) 1 (μ 9 j0 1) μ)).bind (fun r6 => some (.inl ((x3 + 1, x4 + 1, r6))))))))))) else (some (.inl ((x3, x4 + 1, μ))))))
def f_Shop_noteHappening (j0 : Nat) (x1 : Int32) (x2 : Int32) (μ : Mem) : Option (Int32 × Mem) :=
  ((if (60 : Int32) ≤ (μ 9 j0 12) then (some (μ)) else (chk (inb (μ 9 j0 12) 60) (nm (st3 μ 31 j0 (μ 9 j0 12).toNatClampNeg x1) (fun μ4 => chk (inb (μ4 9 j0 12) 60) (nm (st3 μ4 32 j0 (μ4 9 j0 12).toNatClampNeg x2) (fun μ6 => chk (inb (μ6 9 j0 12) 60) (nm (st3 μ6 33 j0 (μ6 9 j0 12).toNatClampNeg (μ6 9 j0 1)) (fun μ8 => nm (st3 μ8 9 j0 12 ((μ8 9 j0 12) + 1)) (fun μ9 => some (μ9))))))))) : Option (Mem))).bind (fun q1 => (it (fun (s : Int32 × Int32 × Mem) => s_Shop_noteHappening_57 j0 x1 x2 s.1 s.2.1 s.2.2) LIM ((0, 0, q1))).bind (fun q2 => some ((q2.1, q2.2))))
set_option maxRecDepth 100000 in
set_option maxHeartbeats 4000000 in
theorem ws_Shop_noteHappening_57 {g : GL} {F G : RG} {nx mc ms : Nat} {Post : RO → RM → Prop} (d : Nat) {j0 : Nat} {x1 : Int32} {x2 : Int32} {x3 : Int32} {x4 : Int32} {μ : Mem} (hv0 : vc 9 j0)  {o : (Int32 × Int32 × Mem) ⊕ (Int32 × Mem)} (hG : LM vc 0 535 μ F G) (h : s_Shop_noteHappening_57 j0 x1 x2 x3 x4 μ = some o)
    (kC : ∀ s', o = .inl s' → ∀ G, LM vc 0 535 s'.2.2 F G → Ev g (d + 1) m_Shop_noteHappening 57 [some (.inr (0, off 9 j0)), some (.inl (.int x1)), some (.inl (.int x2)), some (.inl (.int s'.1)), some (.inl (.int s'.2.1))] [] (G, nx) mc ms Post)
    (kX : ∀ r, o = .inr r → ∀ G, LM vc 0 535 r.2 F G → Ev g (d + 1) m_Shop_noteHappening 135 [none, none, none, some (.inl (.int r.1)), none] [] (G, nx) mc ms Post)
    : Ev g (d + 1) m_Shop_noteHappening 57 [some (.inr (0, off 9 j0)), some (.inl (.int x1)), some (.inl (.int x2)), some (.inl (.int x3)), some (.inl (.int x4))] [] (G, nx) mc ms Post := by
  unfold s_Shop_noteHappening_57 at h
  refine ev_iload (i := 4) rfl d_Shop_noteHappening_57 ?_
  refine ev_aload_n (k0 := 0) rfl d_Shop_noteHappening_59 ?_
  refine cv_get9 (.inl (.int (μ 9 j0 5))) hG hv0 fg_Shop_28_9 rfl rfl d_Shop_noteHappening_60 ?_
  refine ev_icmp_ge (tgt := 135) (by decide) d_Shop_noteHappening_63 (fun c => ?_) (fun c => ?_)
  · rw [if_pos c] at h
    exact Ev.sub (.n (.n (.n (.s (.n LSb.z))))) (kX _ (Option.some.inj h).symm G hG)
  · rw [if_neg c] at h
    refine ev_aload_n (k0 := 0) rfl d_Shop_noteHappening_66 ?_
    refine cv_get9 (.inr (0, off 28 j0)) hG hv0 fg_Shop_24_9 rfl rfl d_Shop_noteHappening_67 ?_
    refine ev_iload (i := 4) rfl d_Shop_noteHappening_70 ?_
    obtain ⟨b1, h⟩ := chk_some h
    refine cv_aald (.inr (0, off 5 (24 * j0 + x4.toNatClampNeg))) hG (tv_9_4 hv0) rfl rfl rfl b1 rfl d_Shop_noteHappening_72 ?_
    refine cv_get9 (.inl (.int (μ 5 (24 * j0 + x4.toNatClampNeg) 7))) hG (ta_28 (tv_9_4 hv0) b1) fg_Shop_137_5 rfl rfl d_Shop_noteHappening_73 ?_
    refine ev_if_ne (tgt := 129) (by decide) d_Shop_noteHappening_76 (fun c => ?_) (fun c => ?_)
    · rw [if_neg c] at h
      refine cw_iincN 4 1 [some (.inr (0, off 9 j0)), some (.inl (.int x1)), some (.inl (.int x2)), some (.inl (.int x3)), some (.inl (.int (x4 + 1)))] d_Shop_noteHappening_129 rfl rfl rfl rfl rfl ?_
      refine ev_goto (tgt := 57) (by decide) d_Shop_noteHappening_132 ?_
      exact kC _ (Option.some.inj h).symm G hG
    · rw [if_pos c] at h
      refine ev_aload_n (k0 := 0) rfl d_Shop_noteHappening_79 ?_
      refine cv_get9 (.inr (0, off 28 j0)) hG hv0 fg_Shop_24_9 rfl rfl d_Shop_noteHappening_80 ?_
      refine ev_iload (i := 4) rfl d_Shop_noteHappening_83 ?_
      obtain ⟨b2, h⟩ := chk_some h
      refine cv_aald (.inr (0, off 5 (24 * j0 + x4.toNatClampNeg))) hG (tv_9_4 hv0) rfl rfl rfl b2 rfl d_Shop_noteHappening_85 ?_
      refine cv_get9 (.inl (.int (μ 5 (24 * j0 + x4.toNatClampNeg) 4))) hG (ta_28 (tv_9_4 hv0) b2) fg_Shop_128_5 rfl rfl d_Shop_noteHappening_86 ?_
      refine ev_aload_n (k0 := 0) rfl d_Shop_noteHappening_89 ?_
      refine cv_get9 (.inl (.int (μ 9 j0 1))) hG hv0 fg_Shop_9_9 rfl rfl d_Shop_noteHappening_90 ?_
      refine ev_icmp_gt (tgt := 129) (by decide) d_Shop_noteHappening_93 (fun c => ?_) (fun c => ?_)
      · rw [if_pos c] at h
        refine cw_iincN 4 1 [some (.inr (0, off 9 j0)), some (.inl (.int x1)), some (.inl (.int x2)), some (.inl (.int x3)), some (.inl (.int (x4 + 1)))] d_Shop_noteHappening_129 rfl rfl rfl rfl rfl ?_
        refine ev_goto (tgt := 57) (by decide) d_Shop_noteHappening_132 ?_
        exact kC _ (Option.some.inj h).symm G hG
      · rw [if_neg c] at h
        refine ev_aload_n (k0 := 0) rfl d_Shop_noteHappening_96 ?_
        refine cv_get9 (.inr (0, off 28 j0)) hG hv0 fg_Shop_24_9 rfl rfl d_Shop_noteHappening_97 ?_
        refine ev_iload (i := 4) rfl d_Shop_noteHappening_100 ?_
        obtain ⟨b3, h⟩ := chk_some h
        refine cv_aald (.inr (0, off 5 (24 * j0 + x4.toNatClampNeg))) hG (tv_9_4 hv0) rfl rfl rfl b3 rfl d_Shop_noteHappening_102 ?_
        refine ev_iload_n (k0 := 1) rfl d_Shop_noteHappening_103 ?_
        refine ev_iload_n (k0 := 2) rfl d_Shop_noteHappening_104 ?_
        obtain ⟨r4, hr4, h⟩ := bind_some9 h
        refine Ev.z9 ?_
        refine cv_V (d := d + 0) (mc1 := 0) (ms1 := 0) (mc := mc) (ms := ms) [.inl (.int x1), .inl (.int x2)] hG (ta_28 (tv_9_4 hv0) b3) rfl lk_Shop_154 (w_Prophecy_isAbout (d + 0) (ta_28 (tv_9_4 hv0) b3) hG hr4) rfl rfl d_Shop_noteHappening_105 (aft_ro ?_)
        refine Ev.at (pc' := 108) rfl (Ev.cong (st' := [.inl (.int r4)]) ?_ rfl rfl)
        refine ev_if_eq (tgt := 129) (by decide) d_Shop_noteHappening_108 (fun c => ?_) (fun c => ?_)
        · rw [if_pos c] at h
          refine cw_iincN 4 1 [some (.inr (0, off 9 j0)), some (.inl (.int x1)), some (.inl (.int x2)), some (.inl (.int x3)), some (.inl (.int (x4 + 1)))] d_Shop_noteHappening_129 rfl rfl rfl rfl rfl ?_
          refine ev_goto (tgt := 57) (by decide) d_Shop_noteHappening_132 ?_
          exact kC _ (Option.some.inj h).symm G hG
        · rw [if_neg c] at h
          refine ev_aload_n (k0 := 0) rfl d_Shop_noteHappening_111 ?_
          refine cv_get9 (.inr (0, off 28 j0)) hG hv0 fg_Shop_24_9 rfl rfl d_Shop_noteHappening_112 ?_
          refine ev_iload (i := 4) rfl d_Shop_noteHappening_115 ?_
          obtain ⟨b5, h⟩ := chk_some h
          refine cv_aald (.inr (0, off 5 (24 * j0 + x4.toNatClampNeg))) hG (tv_9_4 hv0) rfl rfl rfl b5 rfl d_Shop_noteHappening_117 ?_
          refine cw_iconst 1 d_Shop_noteHappening_118 rfl ?_
          refine ev_aload_n (k0 := 0) rfl d_Shop_noteHappening_119 ?_
          refine cv_get9 (.inl (.int (μ 9 j0 1))) hG hv0 fg_Shop_9_9 rfl rfl d_Shop_noteHappening_120 ?_
          obtain ⟨r6, hr6, h⟩ := bind_some9 h
          refine Ev.z9 ?_
          refine cv_V (d := d + 0) (mc1 := 0) (ms1 := 0) (mc := mc) (ms := ms) [.inl (.int 1), .inl (.int (μ 9 j0 1))] hG (ta_28 (tv_9_4 hv0) b5) rfl lk_Shop_158 (w_Prophecy_decide (d + 0) (ta_28 (tv_9_4 hv0) b5) hG hr6) rfl rfl d_Shop_noteHappening_123 (aft_rw (fun G hG => ?_))
          refine Ev.at (pc' := 126) rfl (Ev.cong (st' := []) ?_ rfl rfl)
          refine cw_iincN 3 1 [some (.inr (0, off 9 j0)), some (.inl (.int x1)), some (.inl (.int x2)), some (.inl (.int (x3 + 1))), some (.inl (.int x4))] d_Shop_noteHappening_126 rfl rfl rfl rfl rfl ?_
          refine cw_iincN 4 1 [some (.inr (0, off 9 j0)), some (.inl (.int x1)), some (.inl (.int x2)), some (.inl (.int (x3 + 1))), some (.inl (.int (x4 + 1)))] d_Shop_noteHappening_129 rfl rfl rfl rfl rfl ?_
          refine ev_goto (tgt := 57) (by decide) d_Shop_noteHappening_132 ?_
          exact kC _ (Option.some.inj h).symm G hG
set_option maxRecDepth 100000 in
set_option maxHeartbeats 4000000 in
theorem w_Shop_noteHappening {g : GL} {F G : RG} {nx : Nat} (d : Nat) {j0 : Nat} {x1 : Int32} {x2 : Int32} {μ : Mem} (hv0 : vc 9 j0)  {o : Int32 × Mem} (hG : LM vc 0 535 μ F G) (h : f_Shop_noteHappening j0 x1 x2 μ = some o) : Mt g (d + 1) m_Shop_noteHappening [.inr (0, off 9 j0), .inl (.int x1), .inl (.int x2)] (G, nx) 0 0 (pRW vc 0 535 (rI o.1) o.2 F nx) := by
  unfold f_Shop_noteHappening at h
  have kE : ∀ v, o = v → pRW vc 0 535 (rI o.1) o.2 F nx = pRW vc 0 535 (rI v.1) v.2 F nx := fun v e => by subst e; rfl
  refine Mt.of9 [some (.inr (0, off 9 j0)), some (.inl (.int x1)), some (.inl (.int x2)), none, none] (by decide +kernel) rfl rfl rfl rfl ?_
  refine ev_aload_n (k0 := 0) rfl d_Shop_noteHappening_0 ?_
  refine cv_get9 (.inl (.int (μ 9 j0 12))) hG hv0 fg_Shop_52_9 rfl rfl d_Shop_noteHappening_1 ?_
  refine cw_bipush 60 d_Shop_noteHappening_4 rfl ?_
  obtain ⟨q1, hj, h⟩ := bind_some9 h
  have K_q1 : ∀ G, LM vc 0 535 q1 F G → Ev g (d + 1) m_Shop_noteHappening 52 [some (.inr (0, off 9 j0)), some (.inl (.int x1)), some (.inl (.int x2)), none, none] [] (G, nx) 0 0 (pRW vc 0 535 (rI o.1) o.2 F nx) := by
    intro G hG
    refine cw_iconst 0 d_Shop_noteHappening_52 rfl ?_
    refine cw_istoreN_n 3 0 rfl [some (.inr (0, off 9 j0)), some (.inl (.int x1)), some (.inl (.int x2)), some (.inl (.int 0)), none] d_Shop_noteHappening_53 rfl rfl rfl ?_
    refine cw_iconst 0 d_Shop_noteHappening_54 rfl ?_
    refine cw_istoreN 4 0 rfl [some (.inr (0, off 9 j0)), some (.inl (.int x1)), some (.inl (.int x2)), some (.inl (.int 0)), some (.inl (.int 0))] d_Shop_noteHappening_55 rfl rfl rfl ?_
    obtain ⟨q2, hl, h⟩ := bind_some9 h
    refine it_ev (W := fun (s : Int32 × Int32 × Mem) => ∀ G, LM vc 0 535 s.2.2 F G → Ev g (d + 1) m_Shop_noteHappening 57 [some (.inr (0, off 9 j0)), some (.inl (.int x1)), some (.inl (.int x2)), some (.inl (.int s.1)), some (.inl (.int s.2.1))] [] (G, nx) 0 0 (pRW vc 0 535 (rI o.1) o.2 F nx)) (X := fun z => z = q2) rfl (fun s9 o9 hs kC9 kX9 => ?_) LIM _ hl G hG
    intro G hG
    refine ws_Shop_noteHappening_57 d hv0 hG hs kC9 (fun r_ e G hG => ?_)
    · obtain rfl := (kX9 _ e).symm
      refine ev_iload_n (k0 := 3) rfl d_Shop_noteHappening_135 ?_
      have hP := kE _ (Option.some.inj h).symm
      exact ev_ireturn (st := []) rfl rfl d_Shop_noteHappening_136 (by rw [hP]; exact ⟨rfl, hG, rfl⟩)
  clear h
  have h := hj
  refine ev_icmp_ge (tgt := 52) (by decide) d_Shop_noteHappening_6 (fun c => ?_) (fun c => ?_)
  · rw [if_pos c] at h
    obtain rfl := Option.some.inj h
    exact K_q1 G hG
  · rw [if_neg c] at h
    refine ev_aload_n (k0 := 0) rfl d_Shop_noteHappening_9 ?_
    refine cv_get9 (.inr (0, off 31 j0)) hG hv0 fg_Shop_43_9 rfl rfl d_Shop_noteHappening_10 ?_
    refine ev_aload_n (k0 := 0) rfl d_Shop_noteHappening_13 ?_
    refine cv_get9 (.inl (.int (μ 9 j0 12))) hG hv0 fg_Shop_52_9 rfl rfl d_Shop_noteHappening_14 ?_
    refine ev_iload_n (k0 := 1) rfl d_Shop_noteHappening_17 ?_
    obtain ⟨b3, h⟩ := chk_some h
    obtain ⟨μ4, e_μ4, h⟩ := nm_some h
    refine cv_iast hG okC (tv_9_9 hv0) rfl rfl b3 rfl d_Shop_noteHappening_18 ?_
    intro G hG; rw [← e_μ4] at hG
    refine ev_aload_n (k0 := 0) rfl d_Shop_noteHappening_19 ?_
    refine cv_get9 (.inr (0, off 32 j0)) hG hv0 fg_Shop_46_9 rfl rfl d_Shop_noteHappening_20 ?_
    refine ev_aload_n (k0 := 0) rfl d_Shop_noteHappening_23 ?_
    refine cv_get9 (.inl (.int (μ4 9 j0 12))) hG hv0 fg_Shop_52_9 rfl rfl d_Shop_noteHappening_24 ?_
    refine ev_iload_n (k0 := 2) rfl d_Shop_noteHappening_27 ?_
    refine Ev.at (pc' := 28) rfl ?_
    obtain ⟨b5, h⟩ := chk_some h
    obtain ⟨μ6, e_μ6, h⟩ := nm_some h
    refine cv_iast hG okC (tv_9_10 hv0) rfl rfl b5 rfl d_Shop_noteHappening_28 ?_
    intro G hG; rw [← e_μ6] at hG
    refine ev_aload_n (k0 := 0) rfl d_Shop_noteHappening_29 ?_
    refine cv_get9 (.inr (0, off 33 j0)) hG hv0 fg_Shop_49_9 rfl rfl d_Shop_noteHappening_30 ?_
    refine ev_aload_n (k0 := 0) rfl d_Shop_noteHappening_33 ?_
    refine cv_get9 (.inl (.int (μ6 9 j0 12))) hG hv0 fg_Shop_52_9 rfl rfl d_Shop_noteHappening_34 ?_
    refine ev_aload_n (k0 := 0) rfl d_Shop_noteHappening_37 ?_
    refine cv_get9 (.inl (.int (μ6 9 j0 1))) hG hv0 fg_Shop_9_9 rfl rfl d_Shop_noteHappening_38 ?_
    obtain ⟨b7, h⟩ := chk_some h
    obtain ⟨μ8, e_μ8, h⟩ := nm_some h
    refine cv_iast hG okC (tv_9_11 hv0) rfl rfl b7 rfl d_Shop_noteHappening_41 ?_
    intro G hG; rw [← e_μ8] at hG
    refine ev_aload_n (k0 := 0) rfl d_Shop_noteHappening_42 ?_
    refine ev_dup rfl d_Shop_noteHappening_43 ?_
    refine cv_get9 (.inl (.int (μ8 9 j0 12))) hG hv0 fg_Shop_52_9 rfl rfl d_Shop_noteHappening_44 ?_
    refine cw_iconst 1 d_Shop_noteHappening_47 rfl ?_
    refine Ev.at (pc' := 48) rfl ?_
    refine ev_iadd d_Shop_noteHappening_48 ?_
    obtain ⟨μ9, e_μ9, h⟩ := nm_some h
    refine cv_put (.inl (.int ((μ8 9 j0 12) + 1))) ((μ8 9 j0 12) + 1) hG okC hv0 fl_Shop_52_9 rfl rfl okv_int d_Shop_noteHappening_49 ?_
    intro G hG; rw [← e_μ9] at hG
    obtain rfl := Option.some.inj h
    exact K_q1 G hG

/-- ProphecyShop.happen -/
def f_P_happen (x1 : Int32) (x2 : Int32) (μ : Mem) : Option (Int32 × Mem) :=
  ((f_Shop_faultOfHappening 0 x1 x2 μ)).bind (fun r1 => ((f_P_throwFor r1 μ)).bind (fun r2 => ((f_History_record 0 μ)).bind (fun r3 => ((f_Shop_noteHappening 0 x1 x2 r3)).bind (fun r4 => some ((r4.1, r4.2))))))
set_option maxRecDepth 100000 in
set_option maxHeartbeats 4000000 in
theorem w_P_happen {g : GL} {F G : RG} {nx : Nat} (d : Nat) {x1 : Int32} {x2 : Int32} {μ : Mem}   {o : Int32 × Mem} (hG : LM vc 0 535 μ F G) (h : f_P_happen x1 x2 μ = some o) : Mt g (d + 3) m_P_happen [.inr (0, off 12 0), .inl (.int x1), .inl (.int x2)] (G, nx) 0 0 (pRW vc 0 535 (rI o.1) o.2 F nx) := by
  unfold f_P_happen at h
  have kE : ∀ v, o = v → pRW vc 0 535 (rI o.1) o.2 F nx = pRW vc 0 535 (rI v.1) v.2 F nx := fun v e => by subst e; rfl
  refine Mt.of9 [some (.inr (0, off 12 0)), some (.inl (.int x1)), some (.inl (.int x2))] (by decide +kernel) rfl rfl rfl rfl ?_
  refine ev_aload_n (k0 := 0) rfl d_P_happen_0 ?_
  refine cv_get9 (.inr (0, off 9 0)) hG v_12 fg_ProphecyShop_47_12 rfl rfl d_P_happen_1 ?_
  refine ev_iload_n (k0 := 1) rfl d_P_happen_4 ?_
  refine ev_iload_n (k0 := 2) rfl d_P_happen_5 ?_
  obtain ⟨r1, hr1, h⟩ := bind_some9 h
  refine cv_V (d := d + 2) (mc1 := 0) (ms1 := 0) (mc := 0) (ms := 0) [.inl (.int x1), .inl (.int x2)] hG (show vc 9 0 from (by decide : 0 < 12)) rfl lk_ProphecyShop_309 (w_Shop_faultOfHappening (d + 1) (show vc 9 0 from (by decide : 0 < 12)) hG hr1) rfl rfl d_P_happen_6 (aft_ro ?_)
  refine Ev.at (pc' := 9) rfl (Ev.cong (st' := [.inl (.int r1)]) ?_ rfl rfl)
  obtain ⟨r2, hr2, h⟩ := bind_some9 h
  refine cw_S (d := d + 2) (mc1 := 0) (ms1 := 0) (mc := 0) (ms := 0) [.inl (.int r1)] lk_ProphecyShop_312 (w_P_throwFor (d + 2) hG hr2) rfl rfl d_P_happen_9 (aft_ro ?_)
  refine Ev.at (pc' := 12) rfl (Ev.cong (st' := []) ?_ rfl rfl)
  refine ev_aload_n (k0 := 0) rfl d_P_happen_12 ?_
  refine cv_get9 (.inr (0, off 2 0)) hG v_12 fg_ProphecyShop_57_12 rfl rfl d_P_happen_13 ?_
  refine ev_aload_n (k0 := 0) rfl d_P_happen_16 ?_
  refine cv_get9 (.inr (0, off 9 0)) hG v_12 fg_ProphecyShop_47_12 rfl rfl d_P_happen_17 ?_
  obtain ⟨r3, hr3, h⟩ := bind_some9 h
  refine cv_V (d := d + 2) (mc1 := 0) (ms1 := 0) (mc := 0) (ms := 0) [.inr (0, off 9 0)] hG v_2 rfl lk_ProphecyShop_138 (w_History_record (d + 0) (show vc 9 0 from (by decide : 0 < 12)) hG hr3) rfl rfl d_P_happen_20 (aft_rw (fun G hG => ?_))
  refine Ev.at (pc' := 23) rfl (Ev.cong (st' := []) ?_ rfl rfl)
  refine ev_aload_n (k0 := 0) rfl d_P_happen_23 ?_
  refine cv_get9 (.inr (0, off 9 0)) hG v_12 fg_ProphecyShop_47_12 rfl rfl d_P_happen_24 ?_
  refine ev_iload_n (k0 := 1) rfl d_P_happen_27 ?_
  refine ev_iload_n (k0 := 2) rfl d_P_happen_28 ?_
  obtain ⟨r4, hr4, h⟩ := bind_some9 h
  refine cv_V (d := d + 2) (mc1 := 0) (ms1 := 0) (mc := 0) (ms := 0) [.inl (.int x1), .inl (.int x2)] hG (show vc 9 0 from (by decide : 0 < 12)) rfl lk_ProphecyShop_315 (w_Shop_noteHappening (d + 1) (show vc 9 0 from (by decide : 0 < 12)) hG hr4) rfl rfl d_P_happen_29 (aft_rw (fun G hG => ?_))
  refine Ev.at (pc' := 32) rfl (Ev.cong (st' := [.inl (.int r4.1)]) ?_ rfl rfl)
  have hP := kE _ (Option.some.inj h).symm
  exact ev_ireturn (st := []) rfl rfl d_P_happen_32 (by rw [hP]; exact ⟨rfl, hG, rfl⟩)

/-- ProphecyShop.hasHappened -/
def f_P_hasHappened (x1 : Int32) (x2 : Int32) (x3 : Int32) (μ : Mem) : Option (Int32) :=
  chk (decide ((μ 12 0 3).toNatClampNeg < 2)) (((f_Names_has (3 * ((μ 12 0 3).toNatClampNeg)) x1 μ)).bind (fun r2 => ((if r2 = 0 then (some (0)) else (chk (decide ((μ 12 0 3).toNatClampNeg < 2)) (((f_Names_has (3 * ((μ 12 0 3).toNatClampNeg) + 1) x2 μ)).bind (fun r8 => if r8 = 0 then (some (0)) else (some (1))))) : Option (Int32))).bind (fun q3 => ((f_P_throwIfMissing q3 μ)).bind (fun r4 => ((f_Shop_isNoted 0 x1 x2 x3 μ)).bind (fun r5 => chk (nb .boolean r5) (some r5))))))
set_option maxRecDepth 100000 in
set_option maxHeartbeats 4000000 in
theorem w_P_hasHappened {g : GL} {F G : RG} {nx : Nat} (d : Nat) {x1 : Int32} {x2 : Int32} {x3 : Int32} {μ : Mem}   {o : Int32} (hG : LM vc 0 535 μ F G) (h : f_P_hasHappened x1 x2 x3 μ = some o) : Mt g (d + 1) m_P_hasHappened [.inr (0, off 12 0), .inl (.int x1), .inl (.int x2), .inl (.int x3)] (G, nx) 0 0 (pRO (rI o) (G, nx)) := by
  unfold f_P_hasHappened at h
  have kE : ∀ v, o = v → pRO (rI o) (G, nx) = pRO (rI v) (G, nx) := fun v e => by subst e; rfl
  refine Mt.of9 [some (.inr (0, off 12 0)), some (.inl (.int x1)), some (.inl (.int x2)), some (.inl (.int x3))] (by decide +kernel) rfl rfl rfl rfl ?_
  refine ev_aload_n (k0 := 0) rfl d_P_hasHappened_0 ?_
  obtain ⟨b1, h⟩ := chk_some h
  refine cv_get9 (.inr (0, off 7 ((μ 12 0 3).toNatClampNeg))) hG v_12 fg_ProphecyShop_35_12 rfl rfl d_P_hasHappened_1 ?_
  refine cv_get9 (.inr (0, off 3 (3 * ((μ 12 0 3).toNatClampNeg)))) hG (show vc 7 _ from dlt9 b1) fg_ProphecyShop_152_7 rfl rfl d_P_hasHappened_4 ?_
  refine ev_iload_n (k0 := 1) rfl d_P_hasHappened_7 ?_
  obtain ⟨r2, hr2, h⟩ := bind_some9 h
  refine cv_V (d := d + 0) (mc1 := 0) (ms1 := 0) (mc := 0) (ms := 0) [.inl (.int x1)] hG (tv_7_5 (show vc 7 _ from dlt9 b1)) rfl lk_ProphecyShop_174 (w_Names_has (d + 0) (tv_7_5 (show vc 7 _ from dlt9 b1)) hG hr2) rfl rfl d_P_hasHappened_8 (aft_ro ?_)
  refine Ev.at (pc' := 11) rfl (Ev.cong (st' := [.inl (.int r2)]) ?_ rfl rfl)
  obtain ⟨q3, hj, h⟩ := bind_some9 h
  have K_q3 : Ev g (d + 1) m_P_hasHappened 33 [some (.inr (0, off 12 0)), some (.inl (.int x1)), some (.inl (.int x2)), some (.inl (.int x3))] [.inl (.int q3)] (G, nx) 0 0 (pRO (rI o) (G, nx)) := by
    obtain ⟨r4, hr4, h⟩ := bind_some9 h
    refine cw_S (d := d + 0) (mc1 := 0) (ms1 := 0) (mc := 0) (ms := 0) [.inl (.int q3)] lk_ProphecyShop_178 (w_P_throwIfMissing (d + 0) hG hr4) rfl rfl d_P_hasHappened_33 (aft_ro ?_)
    refine Ev.at (pc' := 36) rfl (Ev.cong (st' := []) ?_ rfl rfl)
    refine ev_aload_n (k0 := 0) rfl d_P_hasHappened_36 ?_
    refine cv_get9 (.inr (0, off 9 0)) hG v_12 fg_ProphecyShop_47_12 rfl rfl d_P_hasHappened_37 ?_
    refine ev_iload_n (k0 := 1) rfl d_P_hasHappened_40 ?_
    refine ev_iload_n (k0 := 2) rfl d_P_hasHappened_41 ?_
    refine ev_iload_n (k0 := 3) rfl d_P_hasHappened_42 ?_
    obtain ⟨r5, hr5, h⟩ := bind_some9 h
    refine cv_V (d := d + 0) (mc1 := 0) (ms1 := 0) (mc := 0) (ms := 0) [.inl (.int x1), .inl (.int x2), .inl (.int x3)] hG (show vc 9 0 from (by decide : 0 < 12)) rfl lk_ProphecyShop_189 (w_Shop_isNoted (d + 0) (show vc 9 0 from (by decide : 0 < 12)) hG hr5) rfl rfl d_P_hasHappened_43 (aft_ro ?_)
    refine Ev.at (pc' := 46) rfl (Ev.cong (st' := [.inl (.int r5)]) ?_ rfl rfl)
    obtain ⟨b6, h⟩ := chk_some h
    have hP := kE _ (Option.some.inj h).symm
    exact ev_ireturn (st := []) rfl (nb_eq b6) d_P_hasHappened_46 (by rw [hP]; exact ⟨rfl, rfl⟩)
  clear h
  have h := hj
  refine ev_if_eq (tgt := 32) (by decide) d_P_hasHappened_11 (fun c => ?_) (fun c => ?_)
  · rw [if_pos c] at h
    refine cw_iconst 0 d_P_hasHappened_32 rfl ?_
    obtain rfl := Option.some.inj h
    exact K_q3
  · rw [if_neg c] at h
    refine ev_aload_n (k0 := 0) rfl d_P_hasHappened_14 ?_
    obtain ⟨b7, h⟩ := chk_some h
    refine cv_get9 (.inr (0, off 7 ((μ 12 0 3).toNatClampNeg))) hG v_12 fg_ProphecyShop_35_12 rfl rfl d_P_hasHappened_15 ?_
    refine cv_get9 (.inr (0, off 3 (3 * ((μ 12 0 3).toNatClampNeg) + 1))) hG (show vc 7 _ from dlt9 b7) fg_ProphecyShop_161_7 rfl rfl d_P_hasHappened_18 ?_
    refine ev_iload_n (k0 := 2) rfl d_P_hasHappened_21 ?_
    obtain ⟨r8, hr8, h⟩ := bind_some9 h
    refine cv_V (d := d + 0) (mc1 := 0) (ms1 := 0) (mc := 0) (ms := 0) [.inl (.int x2)] hG (tv_7_6 (show vc 7 _ from dlt9 b7)) rfl lk_ProphecyShop_174 (w_Names_has (d + 0) (tv_7_6 (show vc 7 _ from dlt9 b7)) hG hr8) rfl rfl d_P_hasHappened_22 (aft_ro ?_)
    refine Ev.at (pc' := 25) rfl (Ev.cong (st' := [.inl (.int r8)]) ?_ rfl rfl)
    refine ev_if_eq (tgt := 32) (by decide) d_P_hasHappened_25 (fun c => ?_) (fun c => ?_)
    · rw [if_pos c] at h
      refine cw_iconst 0 d_P_hasHappened_32 rfl ?_
      obtain rfl := Option.some.inj h
      exact K_q3
    · rw [if_neg c] at h
      refine cw_iconst 1 d_P_hasHappened_28 rfl ?_
      refine ev_goto (tgt := 33) (by decide) d_P_hasHappened_29 ?_
      obtain rfl := Option.some.inj h
      exact K_q3

/-- ProphecyShop.idleOwls -/
def s_P_idleOwls_4  (x1 : Int32) (x2 : Int32) (μ : Mem) : Option ((Int32 × Int32) ⊕ (Int32)) :=
  chk (decide ((μ 12 0 3).toNatClampNeg < 2)) (if (μ 7 ((μ 12 0 3).toNatClampNeg) 11) ≤ x2 then (some (.inr x1)) else (((f_Shop_owlWith 0 x2 μ)).bind (fun r2 => chk (decide (r2 < 60)) (if (μ 4 r2 0) = 0 then (some (.inl ((x1 + 1, x2 + 1)))) else (some (.inl ((x1, x2 + 1))))))))
def f_P_idleOwls  (μ : Mem) : Option (Int32) :=
  (it (fun (s : Int32 × Int32) => s_P_idleOwls_4 s.1 s.2 μ) LIM ((0, 0))).bind (fun q1 => some q1)
set_option maxRecDepth 100000 in
set_option maxHeartbeats 4000000 in
theorem ws_P_idleOwls_4 {g : GL} {F G : RG} {nx mc ms : Nat} {Post : RO → RM → Prop} (d : Nat)  {x1 : Int32} {x2 : Int32} {μ : Mem}   {o : (Int32 × Int32) ⊕ (Int32)} (hG : LM vc 0 535 μ F G) (h : s_P_idleOwls_4  x1 x2 μ = some o)
    (kC : ∀ s', o = .inl s' → Ev g (d + 1) m_P_idleOwls 4 [some (.inr (0, off 12 0)), some (.inl (.int s'.1)), some (.inl (.int s'.2))] [] (G, nx) mc ms Post)
    (kX : ∀ r, o = .inr r → Ev g (d + 1) m_P_idleOwls 38 [none, some (.inl (.int r)), none] [] (G, nx) mc ms Post)
    : Ev g (d + 1) m_P_idleOwls 4 [some (.inr (0, off 12 0)), some (.inl (.int x1)), some (.inl (.int x2))] [] (G, nx) mc ms Post := by
  unfold s_P_idleOwls_4 at h
  refine ev_iload_n (k0 := 2) rfl d_P_idleOwls_4 ?_
  refine ev_aload_n (k0 := 0) rfl d_P_idleOwls_5 ?_
  obtain ⟨b1, h⟩ := chk_some h
  refine cv_get9 (.inr (0, off 7 ((μ 12 0 3).toNatClampNeg))) hG v_12 fg_ProphecyShop_35_12 rfl rfl d_P_idleOwls_6 ?_
  refine cv_get9 (.inl (.int (μ 7 ((μ 12 0 3).toNatClampNeg) 11))) hG (show vc 7 _ from dlt9 b1) fg_ProphecyShop_252_7 rfl rfl d_P_idleOwls_9 ?_
  refine ev_icmp_ge (tgt := 38) (by decide) d_P_idleOwls_12 (fun c => ?_) (fun c => ?_)
  · rw [if_pos c] at h
    exact Ev.sub (.n (.s (.n LSb.z))) (kX _ (Option.some.inj h).symm)
  · rw [if_neg c] at h
    refine ev_aload_n (k0 := 0) rfl d_P_idleOwls_15 ?_
    refine cv_get9 (.inr (0, off 9 0)) hG v_12 fg_ProphecyShop_47_12 rfl rfl d_P_idleOwls_16 ?_
    refine ev_iload_n (k0 := 2) rfl d_P_idleOwls_19 ?_
    obtain ⟨r2, hr2, h⟩ := bind_some9 h
    refine Ev.z9 ?_
    refine cv_V (d := d + 0) (mc1 := 0) (ms1 := 0) (mc := mc) (ms := ms) [.inl (.int x2)] hG (show vc 9 0 from (by decide : 0 < 12)) rfl lk_ProphecyShop_255 (w_Shop_owlWith (d + 0) (show vc 9 0 from (by decide : 0 < 12)) hG hr2) rfl rfl d_P_idleOwls_20 (aft_ro ?_)
    obtain ⟨b3, h⟩ := chk_some h
    refine Ev.at (pc' := 23) rfl (Ev.cong (st' := [.inr (0, off 4 r2)]) ?_ rfl rfl)
    refine cv_get9 (.inl (.int (μ 4 r2 0))) hG (show vc 4 _ from dlt9 b3) fg_ProphecyShop_259_4 rfl rfl d_P_idleOwls_23 ?_
    refine ev_if_ne (tgt := 32) (by decide) d_P_idleOwls_26 (fun c => ?_) (fun c => ?_)
    · rw [if_neg c] at h
      refine cw_iincN 2 1 [some (.inr (0, off 12 0)), some (.inl (.int x1)), some (.inl (.int (x2 + 1)))] d_P_idleOwls_32 rfl rfl rfl rfl rfl ?_
      refine ev_goto (tgt := 4) (by decide) d_P_idleOwls_35 ?_
      exact kC _ (Option.some.inj h).symm
    · rw [if_pos c] at h
      refine cw_iincN 1 1 [some (.inr (0, off 12 0)), some (.inl (.int (x1 + 1))), some (.inl (.int x2))] d_P_idleOwls_29 rfl rfl rfl rfl rfl ?_
      refine cw_iincN 2 1 [some (.inr (0, off 12 0)), some (.inl (.int (x1 + 1))), some (.inl (.int (x2 + 1)))] d_P_idleOwls_32 rfl rfl rfl rfl rfl ?_
      refine ev_goto (tgt := 4) (by decide) d_P_idleOwls_35 ?_
      exact kC _ (Option.some.inj h).symm
set_option maxRecDepth 100000 in
set_option maxHeartbeats 4000000 in
theorem w_P_idleOwls {g : GL} {F G : RG} {nx : Nat} (d : Nat)  {μ : Mem}   {o : Int32} (hG : LM vc 0 535 μ F G) (h : f_P_idleOwls  μ = some o) : Mt g (d + 1) m_P_idleOwls [.inr (0, off 12 0)] (G, nx) 0 0 (pRO (rI o) (G, nx)) := by
  unfold f_P_idleOwls at h
  have kE : ∀ v, o = v → pRO (rI o) (G, nx) = pRO (rI v) (G, nx) := fun v e => by subst e; rfl
  refine Mt.of9 [some (.inr (0, off 12 0)), none, none] (by decide +kernel) rfl rfl rfl rfl ?_
  refine cw_iconst 0 d_P_idleOwls_0 rfl ?_
  refine cw_istoreN_n 1 0 rfl [some (.inr (0, off 12 0)), some (.inl (.int 0)), none] d_P_idleOwls_1 rfl rfl rfl ?_
  refine cw_iconst 0 d_P_idleOwls_2 rfl ?_
  refine cw_istoreN_n 2 0 rfl [some (.inr (0, off 12 0)), some (.inl (.int 0)), some (.inl (.int 0))] d_P_idleOwls_3 rfl rfl rfl ?_
  obtain ⟨q1, hl, h⟩ := bind_some9 h
  refine it_ev (W := fun (s : Int32 × Int32) => Ev g (d + 1) m_P_idleOwls 4 [some (.inr (0, off 12 0)), some (.inl (.int s.1)), some (.inl (.int s.2))] [] (G, nx) 0 0 (pRO (rI o) (G, nx))) (X := fun z => z = q1) rfl (fun s9 o9 hs kC9 kX9 => ?_) LIM _ hl
  refine ws_P_idleOwls_4 d  hG hs kC9 (fun r_ e => ?_)
  · obtain rfl := (kX9 _ e).symm
    refine ev_iload_n (k0 := 1) rfl d_P_idleOwls_38 ?_
    have hP := kE _ (Option.some.inj h).symm
    exact ev_ireturn (st := []) rfl rfl d_P_idleOwls_39 (by rw [hP]; exact ⟨rfl, rfl⟩)

/-- ProphecyShop.isDenial -/
def f_P_isDenial (x1 : Int32) (μ : Mem) : Option (Int32) :=
  ((f_P_prophecyWith x1 μ)).bind (fun r1 => chk (decide (r1 < 288)) (if (μ 5 r1 1) = 2 then some 1 else (some 0)))
set_option maxRecDepth 100000 in
set_option maxHeartbeats 4000000 in
theorem w_P_isDenial {g : GL} {F G : RG} {nx : Nat} (d : Nat) {x1 : Int32} {μ : Mem}   {o : Int32} (hG : LM vc 0 535 μ F G) (h : f_P_isDenial x1 μ = some o) : Mt g (d + 3) m_P_isDenial [.inr (0, off 12 0), .inl (.int x1)] (G, nx) 0 0 (pRO (rI o) (G, nx)) := by
  unfold f_P_isDenial at h
  have kE : ∀ v, o = v → pRO (rI o) (G, nx) = pRO (rI v) (G, nx) := fun v e => by subst e; rfl
  refine Mt.of9 [some (.inr (0, off 12 0)), some (.inl (.int x1))] (by decide +kernel) rfl rfl rfl rfl ?_
  refine ev_aload_n (k0 := 0) rfl d_P_isDenial_0 ?_
  refine ev_iload_n (k0 := 1) rfl d_P_isDenial_1 ?_
  obtain ⟨r1, hr1, h⟩ := bind_some9 h
  refine cv_V (d := d + 2) (mc1 := 0) (ms1 := 0) (mc := 0) (ms := 0) [.inl (.int x1)] hG v_12 rfl lk_ProphecyShop_198 (w_P_prophecyWith (d + 0) hG hr1) rfl rfl d_P_isDenial_2 (aft_ro ?_)
  obtain ⟨b2, h⟩ := chk_some h
  refine Ev.at (pc' := 5) rfl (Ev.cong (st' := [.inr (0, off 5 r1)]) ?_ rfl rfl)
  refine cv_get9 (.inl (.int (μ 5 r1 1))) hG (show vc 5 _ from dlt9 b2) fg_ProphecyShop_213_5 rfl rfl d_P_isDenial_5 ?_
  refine cw_iconst 2 d_P_isDenial_8 rfl ?_
  refine ev_icmp_ne (tgt := 16) (by decide) d_P_isDenial_9 (fun c => ?_) (fun c => ?_)
  · rw [if_neg c] at h
    refine cw_iconst 0 d_P_isDenial_16 rfl ?_
    have hP := kE _ (Option.some.inj h).symm
    exact ev_ireturn (st := []) rfl rfl d_P_isDenial_17 (by rw [hP]; exact ⟨rfl, rfl⟩)
  · rw [if_pos c] at h
    refine cw_iconst 1 d_P_isDenial_12 rfl ?_
    refine ev_goto (tgt := 17) (by decide) d_P_isDenial_13 ?_
    have hP := kE _ (Option.some.inj h).symm
    exact ev_ireturn (st := []) rfl rfl d_P_isDenial_17 (by rw [hP]; exact ⟨rfl, rfl⟩)

/-- ProphecyShop.lastDay -/
def f_P_lastDay (x1 : Int32) (μ : Mem) : Option (Int32) :=
  ((f_P_prophecyWith x1 μ)).bind (fun r1 => chk (decide (r1 < 288)) (some (μ 5 r1 5)))
set_option maxRecDepth 100000 in
set_option maxHeartbeats 4000000 in
theorem w_P_lastDay {g : GL} {F G : RG} {nx : Nat} (d : Nat) {x1 : Int32} {μ : Mem}   {o : Int32} (hG : LM vc 0 535 μ F G) (h : f_P_lastDay x1 μ = some o) : Mt g (d + 3) m_P_lastDay [.inr (0, off 12 0), .inl (.int x1)] (G, nx) 0 0 (pRO (rI o) (G, nx)) := by
  unfold f_P_lastDay at h
  have kE : ∀ v, o = v → pRO (rI o) (G, nx) = pRO (rI v) (G, nx) := fun v e => by subst e; rfl
  refine Mt.of9 [some (.inr (0, off 12 0)), some (.inl (.int x1))] (by decide +kernel) rfl rfl rfl rfl ?_
  refine ev_aload_n (k0 := 0) rfl d_P_lastDay_0 ?_
  refine ev_iload_n (k0 := 1) rfl d_P_lastDay_1 ?_
  obtain ⟨r1, hr1, h⟩ := bind_some9 h
  refine cv_V (d := d + 2) (mc1 := 0) (ms1 := 0) (mc := 0) (ms := 0) [.inl (.int x1)] hG v_12 rfl lk_ProphecyShop_198 (w_P_prophecyWith (d + 0) hG hr1) rfl rfl d_P_lastDay_2 (aft_ro ?_)
  obtain ⟨b2, h⟩ := chk_some h
  refine Ev.at (pc' := 5) rfl (Ev.cong (st' := [.inr (0, off 5 r1)]) ?_ rfl rfl)
  refine cv_get9 (.inl (.int (μ 5 r1 5))) hG (show vc 5 _ from dlt9 b2) fg_ProphecyShop_219_5 rfl rfl d_P_lastDay_5 ?_
  have hP := kE _ (Option.some.inj h).symm
  exact ev_ireturn (st := []) rfl rfl d_P_lastDay_8 (by rw [hP]; exact ⟨rfl, rfl⟩)

/-- ProphecyShop$Shop.countHappenings -/
def s_Shop_countHappenings_5 (j0 : Nat) (x1 : Int32) (x2 : Int32) (x3 : Int32) (x4 : Int32) (μ : Mem) : Option ((Int32 × Int32) ⊕ (Int32)) :=
  if (μ 9 j0 12) ≤ x4 then (some (.inr x3)) else (chk (inb x4 60) (if (μ 31 j0 x4.toNatClampNeg) = x1 then (chk (inb x4 60) (if (μ 32 j0 x4.toNatClampNeg) = x2 then (some (.inl ((x3 + 1, x4 + 1)))) else (some (.inl ((x3, x4 + 1)))))) else (some (.inl ((x3, x4 + 1))))))
def f_Shop_countHappenings (j0 : Nat) (x1 : Int32) (x2 : Int32) (μ : Mem) : Option (Int32) :=
  (it (fun (s : Int32 × Int32) => s_Shop_countHappenings_5 j0 x1 x2 s.1 s.2 μ) LIM ((0, 0))).bind (fun q1 => some q1)
set_option maxRecDepth 100000 in
set_option maxHeartbeats 4000000 in
theorem ws_Shop_countHappenings_5 {g : GL} {F G : RG} {nx mc ms : Nat} {Post : RO → RM → Prop} (d : Nat) {j0 : Nat} {x1 : Int32} {x2 : Int32} {x3 : Int32} {x4 : Int32} {μ : Mem} (hv0 : vc 9 j0)  {o : (Int32 × Int32) ⊕ (Int32)} (hG : LM vc 0 535 μ F G) (h : s_Shop_countHappenings_5 j0 x1 x2 x3 x4 μ = some o)
    (kC : ∀ s', o = .inl s' → Ev g (d + 0) m_Shop_countHappenings 5 [some (.inr (0, off 9 j0)), some (.inl (.int x1)), some (.inl (.int x2)), some (.inl (.int s'.1)), some (.inl (.int s'.2))] [] (G, nx) mc ms Post)
    (kX : ∀ r, o = .inr r → Ev g (d + 0) m_Shop_countHappenings 45 [none, none, none, some (.inl (.int r)), none] [] (G, nx) mc ms Post)
    : Ev g (d + 0) m_Shop_countHappenings 5 [some (.inr (0, off 9 j0)), some (.inl (.int x1)), some (.inl (.int x2)), some (.inl (.int x3)), some (.inl (.int x4))] [] (G, nx) mc ms Post := by
  unfold s_Shop_countHappenings_5 at h
  refine ev_iload (i := 4) rfl d_Shop_countHappenings_5 ?_
  refine ev_aload_n (k0 := 0) rfl d_Shop_countHappenings_7 ?_
  refine cv_get9 (.inl (.int (μ 9 j0 12))) hG hv0 fg_Shop_52_9 rfl rfl d_Shop_countHappenings_8 ?_
  refine ev_icmp_ge (tgt := 45) (by decide) d_Shop_countHappenings_11 (fun c => ?_) (fun c => ?_)
  · rw [if_pos c] at h
    exact Ev.sub (.n (.n (.n (.s (.n LSb.z))))) (kX _ (Option.some.inj h).symm)
  · rw [if_neg c] at h
    refine ev_aload_n (k0 := 0) rfl d_Shop_countHappenings_14 ?_
    refine cv_get9 (.inr (0, off 31 j0)) hG hv0 fg_Shop_43_9 rfl rfl d_Shop_countHappenings_15 ?_
    refine ev_iload (i := 4) rfl d_Shop_countHappenings_18 ?_
    obtain ⟨b1, h⟩ := chk_some h
    refine cv_iald hG (tv_9_9 hv0) rfl rfl b1 rfl d_Shop_countHappenings_20 ?_
    refine ev_iload_n (k0 := 1) rfl d_Shop_countHappenings_21 ?_
    refine ev_icmp_ne (tgt := 39) (by decide) d_Shop_countHappenings_22 (fun c => ?_) (fun c => ?_)
    · rw [if_neg c] at h
      refine cw_iincN 4 1 [some (.inr (0, off 9 j0)), some (.inl (.int x1)), some (.inl (.int x2)), some (.inl (.int x3)), some (.inl (.int (x4 + 1)))] d_Shop_countHappenings_39 rfl rfl rfl rfl rfl ?_
      refine ev_goto (tgt := 5) (by decide) d_Shop_countHappenings_42 ?_
      exact kC _ (Option.some.inj h).symm
    · rw [if_pos c] at h
      refine ev_aload_n (k0 := 0) rfl d_Shop_countHappenings_25 ?_
      refine cv_get9 (.inr (0, off 32 j0)) hG hv0 fg_Shop_46_9 rfl rfl d_Shop_countHappenings_26 ?_
      refine ev_iload (i := 4) rfl d_Shop_countHappenings_29 ?_
      obtain ⟨b2, h⟩ := chk_some h
      refine cv_iald hG (tv_9_10 hv0) rfl rfl b2 rfl d_Shop_countHappenings_31 ?_
      refine ev_iload_n (k0 := 2) rfl d_Shop_countHappenings_32 ?_
      refine ev_icmp_ne (tgt := 39) (by decide) d_Shop_countHappenings_33 (fun c => ?_) (fun c => ?_)
      · rw [if_neg c] at h
        refine cw_iincN 4 1 [some (.inr (0, off 9 j0)), some (.inl (.int x1)), some (.inl (.int x2)), some (.inl (.int x3)), some (.inl (.int (x4 + 1)))] d_Shop_countHappenings_39 rfl rfl rfl rfl rfl ?_
        refine ev_goto (tgt := 5) (by decide) d_Shop_countHappenings_42 ?_
        exact kC _ (Option.some.inj h).symm
      · rw [if_pos c] at h
        refine cw_iincN 3 1 [some (.inr (0, off 9 j0)), some (.inl (.int x1)), some (.inl (.int x2)), some (.inl (.int (x3 + 1))), some (.inl (.int x4))] d_Shop_countHappenings_36 rfl rfl rfl rfl rfl ?_
        refine cw_iincN 4 1 [some (.inr (0, off 9 j0)), some (.inl (.int x1)), some (.inl (.int x2)), some (.inl (.int (x3 + 1))), some (.inl (.int (x4 + 1)))] d_Shop_countHappenings_39 rfl rfl rfl rfl rfl ?_
        refine ev_goto (tgt := 5) (by decide) d_Shop_countHappenings_42 ?_
        exact kC _ (Option.some.inj h).symm
set_option maxRecDepth 100000 in
set_option maxHeartbeats 4000000 in
theorem w_Shop_countHappenings {g : GL} {F G : RG} {nx : Nat} (d : Nat) {j0 : Nat} {x1 : Int32} {x2 : Int32} {μ : Mem} (hv0 : vc 9 j0)  {o : Int32} (hG : LM vc 0 535 μ F G) (h : f_Shop_countHappenings j0 x1 x2 μ = some o) : Mt g (d + 0) m_Shop_countHappenings [.inr (0, off 9 j0), .inl (.int x1), .inl (.int x2)] (G, nx) 0 0 (pRO (rI o) (G, nx)) := by
  unfold f_Shop_countHappenings at h
  have kE : ∀ v, o = v → pRO (rI o) (G, nx) = pRO (rI v) (G, nx) := fun v e => by subst e; rfl
  refine Mt.of9 [some (.inr (0, off 9 j0)), some (.inl (.int x1)), some (.inl (.int x2)), none, none] (by decide +kernel) rfl rfl rfl rfl ?_
  refine cw_iconst 0 d_Shop_countHappenings_0 rfl ?_
  refine cw_istoreN_n 3 0 rfl [some (.inr (0, off 9 j0)), some (.inl (.int x1)), some (.inl (.int x2)), some (.inl (.int 0)), none] d_Shop_countHappenings_1 rfl rfl rfl ?_
  refine cw_iconst 0 d_Shop_countHappenings_2 rfl ?_
  refine cw_istoreN 4 0 rfl [some (.inr (0, off 9 j0)), some (.inl (.int x1)), some (.inl (.int x2)), some (.inl (.int 0)), some (.inl (.int 0))] d_Shop_countHappenings_3 rfl rfl rfl ?_
  obtain ⟨q1, hl, h⟩ := bind_some9 h
  refine it_ev (W := fun (s : Int32 × Int32) => Ev g (d + 0) m_Shop_countHappenings 5 [some (.inr (0, off 9 j0)), some (.inl (.int x1)), some (.inl (.int x2)), some (.inl (.int s.1)), some (.inl (.int s.2))] [] (G, nx) 0 0 (pRO (rI o) (G, nx))) (X := fun z => z = q1) rfl (fun s9 o9 hs kC9 kX9 => ?_) LIM _ hl
  refine ws_Shop_countHappenings_5 d hv0 hG hs kC9 (fun r_ e => ?_)
  · obtain rfl := (kX9 _ e).symm
    refine ev_iload_n (k0 := 3) rfl d_Shop_countHappenings_45 ?_
    have hP := kE _ (Option.some.inj h).symm
    exact ev_ireturn (st := []) rfl rfl d_Shop_countHappenings_46 (by rw [hP]; exact ⟨rfl, rfl⟩)

/-- ProphecyShop$Shop.countHappeningsIn -/
def s_Shop_countHappeningsIn_4 (j0 : Nat) (x1 : Int32) (x2 : Int32) (x3 : Int32) (μ : Mem) : Option ((Int32 × Int32) ⊕ (Int32)) :=
  if (6 : Int32) ≤ x3 then (some (.inr x2)) else (((f_Shop_countHappenings j0 x3 x1 μ)).bind (fun r1 => nm (x2 + r1 : Int32) (fun v2 => some (.inl ((v2, x3 + 1))))))
def f_Shop_countHappeningsIn (j0 : Nat) (x1 : Int32) (μ : Mem) : Option (Int32) :=
  (it (fun (s : Int32 × Int32) => s_Shop_countHappeningsIn_4 j0 x1 s.1 s.2 μ) LIM ((0, 0))).bind (fun q1 => some q1)
set_option maxRecDepth 100000 in
set_option maxHeartbeats 4000000 in
theorem ws_Shop_countHappeningsIn_4 {g : GL} {F G : RG} {nx mc ms : Nat} {Post : RO → RM → Prop} (d : Nat) {j0 : Nat} {x1 : Int32} {x2 : Int32} {x3 : Int32} {μ : Mem} (hv0 : vc 9 j0)  {o : (Int32 × Int32) ⊕ (Int32)} (hG : LM vc 0 535 μ F G) (h : s_Shop_countHappeningsIn_4 j0 x1 x2 x3 μ = some o)
    (kC : ∀ s', o = .inl s' → Ev g (d + 1) m_Shop_countHappeningsIn 4 [some (.inr (0, off 9 j0)), some (.inl (.int x1)), some (.inl (.int s'.1)), some (.inl (.int s'.2))] [] (G, nx) mc ms Post)
    (kX : ∀ r, o = .inr r → Ev g (d + 1) m_Shop_countHappeningsIn 25 [none, none, some (.inl (.int r)), none] [] (G, nx) mc ms Post)
    : Ev g (d + 1) m_Shop_countHappeningsIn 4 [some (.inr (0, off 9 j0)), some (.inl (.int x1)), some (.inl (.int x2)), some (.inl (.int x3))] [] (G, nx) mc ms Post := by
  unfold s_Shop_countHappeningsIn_4 at h
  refine ev_iload_n (k0 := 3) rfl d_Shop_countHappeningsIn_4 ?_
  refine cw_bipush 6 d_Shop_countHappeningsIn_5 rfl ?_
  refine ev_icmp_ge (tgt := 25) (by decide) d_Shop_countHappeningsIn_7 (fun c => ?_) (fun c => ?_)
  · rw [if_pos c] at h
    exact Ev.sub (.n (.n (.s (.n LSb.z)))) (kX _ (Option.some.inj h).symm)
  · rw [if_neg c] at h
    refine ev_iload_n (k0 := 2) rfl d_Shop_countHappeningsIn_10 ?_
    refine ev_aload_n (k0 := 0) rfl d_Shop_countHappeningsIn_11 ?_
    refine ev_iload_n (k0 := 3) rfl d_Shop_countHappeningsIn_12 ?_
    refine ev_iload_n (k0 := 1) rfl d_Shop_countHappeningsIn_13 ?_
    obtain ⟨r1, hr1, h⟩ := bind_some9 h
    refine Ev.z9 ?_
    refine cv_V (d := d + 0) (mc1 := 0) (ms1 := 0) (mc := mc) (ms := ms) [.inl (.int x3), .inl (.int x1)] hG hv0 rfl lk_Shop_147 (w_Shop_countHappenings (d + 0) hv0 hG hr1) rfl rfl d_Shop_countHappeningsIn_14 (aft_ro ?_)
    refine Ev.at (pc' := 17) rfl (Ev.cong (st' := [.inl (.int r1), .inl (.int x2)]) ?_ rfl rfl)
    refine ev_iadd d_Shop_countHappeningsIn_17 ?_
    obtain ⟨v2, e_v2, h⟩ := nm_some h
    refine cw_istoreN_n 2 v2 e_v2 [some (.inr (0, off 9 j0)), some (.inl (.int x1)), some (.inl (.int v2)), some (.inl (.int x3))] d_Shop_countHappeningsIn_18 rfl rfl rfl ?_
    refine cw_iincN 3 1 [some (.inr (0, off 9 j0)), some (.inl (.int x1)), some (.inl (.int v2)), some (.inl (.int (x3 + 1)))] d_Shop_countHappeningsIn_19 rfl rfl rfl rfl rfl ?_
    refine ev_goto (tgt := 4) (by decide) d_Shop_countHappeningsIn_22 ?_
    exact kC _ (Option.some.inj h).symm
set_option maxRecDepth 100000 in
set_option maxHeartbeats 4000000 in
theorem w_Shop_countHappeningsIn {g : GL} {F G : RG} {nx : Nat} (d : Nat) {j0 : Nat} {x1 : Int32} {μ : Mem} (hv0 : vc 9 j0)  {o : Int32} (hG : LM vc 0 535 μ F G) (h : f_Shop_countHappeningsIn j0 x1 μ = some o) : Mt g (d + 1) m_Shop_countHappeningsIn [.inr (0, off 9 j0), .inl (.int x1)] (G, nx) 0 0 (pRO (rI o) (G, nx)) := by
  unfold f_Shop_countHappeningsIn at h
  have kE : ∀ v, o = v → pRO (rI o) (G, nx) = pRO (rI v) (G, nx) := fun v e => by subst e; rfl
  refine Mt.of9 [some (.inr (0, off 9 j0)), some (.inl (.int x1)), none, none] (by decide +kernel) rfl rfl rfl rfl ?_
  refine cw_iconst 0 d_Shop_countHappeningsIn_0 rfl ?_
  refine cw_istoreN_n 2 0 rfl [some (.inr (0, off 9 j0)), some (.inl (.int x1)), some (.inl (.int 0)), none] d_Shop_countHappeningsIn_1 rfl rfl rfl ?_
  refine cw_iconst 0 d_Shop_countHappeningsIn_2 rfl ?_
  refine cw_istoreN_n 3 0 rfl [some (.inr (0, off 9 j0)), some (.inl (.int x1)), some (.inl (.int 0)), some (.inl (.int 0))] d_Shop_countHappeningsIn_3 rfl rfl rfl ?_
  obtain ⟨q1, hl, h⟩ := bind_some9 h
  refine it_ev (W := fun (s : Int32 × Int32) => Ev g (d + 1) m_Shop_countHappeningsIn 4 [some (.inr (0, off 9 j0)), some (.inl (.int x1)), some (.inl (.int s.1)), some (.inl (.int s.2))] [] (G, nx) 0 0 (pRO (rI o) (G, nx))) (X := fun z => z = q1) rfl (fun s9 o9 hs kC9 kX9 => ?_) LIM _ hl
  refine ws_Shop_countHappeningsIn_4 d hv0 hG hs kC9 (fun r_ e => ?_)
  · obtain rfl := (kX9 _ e).symm
    refine ev_iload_n (k0 := 2) rfl d_Shop_countHappeningsIn_25 ?_
    have hP := kE _ (Option.some.inj h).symm
    exact ev_ireturn (st := []) rfl rfl d_Shop_countHappeningsIn_26 (by rw [hP]; exact ⟨rfl, rfl⟩)

/-- ProphecyShop.liveliestPlace -/
def s_P_liveliestPlace_13  (x1 : Int32) (x2 : Int32) (x3 : Int32) (μ : Mem) : Option ((Int32 × Int32 × Int32) ⊕ (Int32)) :=
  chk (decide ((μ 12 0 3).toNatClampNeg < 2)) (if (μ 3 (3 * ((μ 12 0 3).toNatClampNeg) + 1) 1) ≤ x3 then (some (.inr x1)) else (((f_Shop_countHappeningsIn 0 x3 μ)).bind (fun r2 => if r2 ≤ x2 then (some (.inl ((x1, x2, x3 + 1)))) else (some (.inl ((x3, r2, x3 + 1)))))))
def f_P_liveliestPlace  (μ : Mem) : Option (Int32) :=
  ((f_Shop_countHappeningsIn 0 0 μ)).bind (fun r1 => (it (fun (s : Int32 × Int32 × Int32) => s_P_liveliestPlace_13 s.1 s.2.1 s.2.2 μ) LIM ((0, r1, 1))).bind (fun q2 => some q2))
set_option maxRecDepth 100000 in
set_option maxHeartbeats 4000000 in
theorem ws_P_liveliestPlace_13 {g : GL} {F G : RG} {nx mc ms : Nat} {Post : RO → RM → Prop} (d : Nat)  {x1 : Int32} {x2 : Int32} {x3 : Int32} {μ : Mem}   {o : (Int32 × Int32 × Int32) ⊕ (Int32)} (hG : LM vc 0 535 μ F G) (h : s_P_liveliestPlace_13  x1 x2 x3 μ = some o)
    (kC : ∀ s', o = .inl s' → Ev g (d + 2) m_P_liveliestPlace 13 [some (.inr (0, off 12 0)), some (.inl (.int s'.1)), some (.inl (.int s'.2.1)), some (.inl (.int s'.2.2)), none] [] (G, nx) mc ms Post)
    (kX : ∀ r, o = .inr r → Ev g (d + 2) m_P_liveliestPlace 54 [none, some (.inl (.int r)), none, none, none] [] (G, nx) mc ms Post)
    : Ev g (d + 2) m_P_liveliestPlace 13 [some (.inr (0, off 12 0)), some (.inl (.int x1)), some (.inl (.int x2)), some (.inl (.int x3)), none] [] (G, nx) mc ms Post := by
  unfold s_P_liveliestPlace_13 at h
  refine ev_iload_n (k0 := 3) rfl d_P_liveliestPlace_13 ?_
  refine ev_aload_n (k0 := 0) rfl d_P_liveliestPlace_14 ?_
  obtain ⟨b1, h⟩ := chk_some h
  refine cv_get9 (.inr (0, off 7 ((μ 12 0 3).toNatClampNeg))) hG v_12 fg_ProphecyShop_35_12 rfl rfl d_P_liveliestPlace_15 ?_
  refine cv_get9 (.inr (0, off 3 (3 * ((μ 12 0 3).toNatClampNeg) + 1))) hG (show vc 7 _ from dlt9 b1) fg_ProphecyShop_161_7 rfl rfl d_P_liveliestPlace_18 ?_
  refine cv_get9 (.inl (.int (μ 3 (3 * ((μ 12 0 3).toNatClampNeg) + 1) 1))) hG (tv_7_6 (show vc 7 _ from dlt9 b1)) fg_ProphecyShop_156_3 rfl rfl d_P_liveliestPlace_21 ?_
  refine ev_icmp_ge (tgt := 54) (by decide) d_P_liveliestPlace_24 (fun c => ?_) (fun c => ?_)
  · rw [if_pos c] at h
    exact Ev.sub (.n (.s (.n (.n (.n LSb.z))))) (kX _ (Option.some.inj h).symm)
  · rw [if_neg c] at h
    refine ev_aload_n (k0 := 0) rfl d_P_liveliestPlace_27 ?_
    refine cv_get9 (.inr (0, off 9 0)) hG v_12 fg_ProphecyShop_47_12 rfl rfl d_P_liveliestPlace_28 ?_
    refine ev_iload_n (k0 := 3) rfl d_P_liveliestPlace_31 ?_
    obtain ⟨r2, hr2, h⟩ := bind_some9 h
    refine Ev.z9 ?_
    refine cv_V (d := d + 1) (mc1 := 0) (ms1 := 0) (mc := mc) (ms := ms) [.inl (.int x3)] hG (show vc 9 0 from (by decide : 0 < 12)) rfl lk_ProphecyShop_192 (w_Shop_countHappeningsIn (d + 0) (show vc 9 0 from (by decide : 0 < 12)) hG hr2) rfl rfl d_P_liveliestPlace_32 (aft_ro ?_)
    refine Ev.at (pc' := 35) rfl (Ev.cong (st' := [.inl (.int r2)]) ?_ rfl rfl)
    refine cw_istoreN 4 r2 rfl [some (.inr (0, off 12 0)), some (.inl (.int x1)), some (.inl (.int x2)), some (.inl (.int x3)), some (.inl (.int r2))] d_P_liveliestPlace_35 rfl rfl rfl ?_
    refine ev_iload (i := 4) rfl d_P_liveliestPlace_37 ?_
    refine ev_iload_n (k0 := 2) rfl d_P_liveliestPlace_39 ?_
    refine ev_icmp_le (tgt := 48) (by decide) d_P_liveliestPlace_40 (fun c => ?_) (fun c => ?_)
    · rw [if_pos c] at h
      refine cw_iincN 3 1 [some (.inr (0, off 12 0)), some (.inl (.int x1)), some (.inl (.int x2)), some (.inl (.int (x3 + 1))), some (.inl (.int r2))] d_P_liveliestPlace_48 rfl rfl rfl rfl rfl ?_
      refine ev_goto (tgt := 13) (by decide) d_P_liveliestPlace_51 ?_
      exact Ev.sub (.s (.s (.s (.s (.n LSb.z))))) (kC _ (Option.some.inj h).symm)
    · rw [if_neg c] at h
      refine ev_iload (i := 4) rfl d_P_liveliestPlace_43 ?_
      refine cw_istoreN_n 2 r2 rfl [some (.inr (0, off 12 0)), some (.inl (.int x1)), some (.inl (.int r2)), some (.inl (.int x3)), some (.inl (.int r2))] d_P_liveliestPlace_45 rfl rfl rfl ?_
      refine ev_iload_n (k0 := 3) rfl d_P_liveliestPlace_46 ?_
      refine cw_istoreN_n 1 x3 rfl [some (.inr (0, off 12 0)), some (.inl (.int x3)), some (.inl (.int r2)), some (.inl (.int x3)), some (.inl (.int r2))] d_P_liveliestPlace_47 rfl rfl rfl ?_
      refine cw_iincN 3 1 [some (.inr (0, off 12 0)), some (.inl (.int x3)), some (.inl (.int r2)), some (.inl (.int (x3 + 1))), some (.inl (.int r2))] d_P_liveliestPlace_48 rfl rfl rfl rfl rfl ?_
      refine ev_goto (tgt := 13) (by decide) d_P_liveliestPlace_51 ?_
      exact Ev.sub (.s (.s (.s (.s (.n LSb.z))))) (kC _ (Option.some.inj h).symm)
set_option maxRecDepth 100000 in
set_option maxHeartbeats 4000000 in
theorem w_P_liveliestPlace {g : GL} {F G : RG} {nx : Nat} (d : Nat)  {μ : Mem}   {o : Int32} (hG : LM vc 0 535 μ F G) (h : f_P_liveliestPlace  μ = some o) : Mt g (d + 2) m_P_liveliestPlace [.inr (0, off 12 0)] (G, nx) 0 0 (pRO (rI o) (G, nx)) := by
  unfold f_P_liveliestPlace at h
  have kE : ∀ v, o = v → pRO (rI o) (G, nx) = pRO (rI v) (G, nx) := fun v e => by subst e; rfl
  refine Mt.of9 [some (.inr (0, off 12 0)), none, none, none, none] (by decide +kernel) rfl rfl rfl rfl ?_
  refine cw_iconst 0 d_P_liveliestPlace_0 rfl ?_
  refine cw_istoreN_n 1 0 rfl [some (.inr (0, off 12 0)), some (.inl (.int 0)), none, none, none] d_P_liveliestPlace_1 rfl rfl rfl ?_
  refine ev_aload_n (k0 := 0) rfl d_P_liveliestPlace_2 ?_
  refine cv_get9 (.inr (0, off 9 0)) hG v_12 fg_ProphecyShop_47_12 rfl rfl d_P_liveliestPlace_3 ?_
  refine cw_iconst 0 d_P_liveliestPlace_6 rfl ?_
  obtain ⟨r1, hr1, h⟩ := bind_some9 h
  refine cv_V (d := d + 1) (mc1 := 0) (ms1 := 0) (mc := 0) (ms := 0) [.inl (.int 0)] hG (show vc 9 0 from (by decide : 0 < 12)) rfl lk_ProphecyShop_192 (w_Shop_countHappeningsIn (d + 0) (show vc 9 0 from (by decide : 0 < 12)) hG hr1) rfl rfl d_P_liveliestPlace_7 (aft_ro ?_)
  refine Ev.at (pc' := 10) rfl (Ev.cong (st' := [.inl (.int r1)]) ?_ rfl rfl)
  refine cw_istoreN_n 2 r1 rfl [some (.inr (0, off 12 0)), some (.inl (.int 0)), some (.inl (.int r1)), none, none] d_P_liveliestPlace_10 rfl rfl rfl ?_
  refine cw_iconst 1 d_P_liveliestPlace_11 rfl ?_
  refine cw_istoreN_n 3 1 rfl [some (.inr (0, off 12 0)), some (.inl (.int 0)), some (.inl (.int r1)), some (.inl (.int 1)), none] d_P_liveliestPlace_12 rfl rfl rfl ?_
  obtain ⟨q2, hl, h⟩ := bind_some9 h
  refine it_ev (W := fun (s : Int32 × Int32 × Int32) => Ev g (d + 2) m_P_liveliestPlace 13 [some (.inr (0, off 12 0)), some (.inl (.int s.1)), some (.inl (.int s.2.1)), some (.inl (.int s.2.2)), none] [] (G, nx) 0 0 (pRO (rI o) (G, nx))) (X := fun z => z = q2) rfl (fun s9 o9 hs kC9 kX9 => ?_) LIM _ hl
  refine ws_P_liveliestPlace_13 d  hG hs kC9 (fun r_ e => ?_)
  · obtain rfl := (kX9 _ e).symm
    refine ev_iload_n (k0 := 1) rfl d_P_liveliestPlace_54 ?_
    have hP := kE _ (Option.some.inj h).symm
    exact ev_ireturn (st := []) rfl rfl d_P_liveliestPlace_55 (by rw [hP]; exact ⟨rfl, rfl⟩)

/-- ProphecyShop$Setup.clear -/
def f_Setup_clear (j0 : Nat) (μ : Mem) : Option (Mem) :=
  nm (st3 μ 3 (3 * j0) 1 0) (fun μ1 => nm (st3 μ1 3 (3 * j0 + 1) 1 0) (fun μ2 => nm (st3 μ2 3 (3 * j0 + 2) 1 0) (fun μ3 => nm (st3 μ3 7 j0 11 0) (fun μ4 => some μ4))))
set_option maxRecDepth 100000 in
set_option maxHeartbeats 4000000 in
theorem w_Setup_clear {g : GL} {F G : RG} {nx : Nat} (d : Nat) {j0 : Nat} {μ : Mem} (hv0 : vc 7 j0)  {o : Mem} (hG : LM vc 0 535 μ F G) (h : f_Setup_clear j0 μ = some o) : Mt g (d + 0) m_Setup_clear [.inr (0, off 7 j0)] (G, nx) 0 0 (pRW vc 0 535 rV o F nx) := by
  unfold f_Setup_clear at h
  have kE : ∀ v, o = v → pRW vc 0 535 rV o F nx = pRW vc 0 535 rV v F nx := fun v e => by subst e; rfl
  refine Mt.of9 [some (.inr (0, off 7 j0))] (by decide +kernel) rfl rfl rfl rfl ?_
  refine ev_aload_n (k0 := 0) rfl d_Setup_clear_0 ?_
  refine cv_get9 (.inr (0, off 3 (3 * j0))) hG hv0 fg_Setup_30_7 rfl rfl d_Setup_clear_1 ?_
  refine cw_iconst 0 d_Setup_clear_4 rfl ?_
  obtain ⟨μ1, e_μ1, h⟩ := nm_some h
  refine cv_put (.inl (.int 0)) 0 hG okC (tv_7_5 hv0) fl_Setup_53_3 rfl rfl okv_int d_Setup_clear_5 ?_
  intro G hG; rw [← e_μ1] at hG
  refine ev_aload_n (k0 := 0) rfl d_Setup_clear_8 ?_
  refine cv_get9 (.inr (0, off 3 (3 * j0 + 1))) hG hv0 fg_Setup_34_7 rfl rfl d_Setup_clear_9 ?_
  refine cw_iconst 0 d_Setup_clear_12 rfl ?_
  obtain ⟨μ2, e_μ2, h⟩ := nm_some h
  refine cv_put (.inl (.int 0)) 0 hG okC (tv_7_6 hv0) fl_Setup_53_3 rfl rfl okv_int d_Setup_clear_13 ?_
  intro G hG; rw [← e_μ2] at hG
  refine ev_aload_n (k0 := 0) rfl d_Setup_clear_16 ?_
  refine cv_get9 (.inr (0, off 3 (3 * j0 + 2))) hG hv0 fg_Setup_37_7 rfl rfl d_Setup_clear_17 ?_
  refine cw_iconst 0 d_Setup_clear_20 rfl ?_
  refine Ev.at (pc' := 21) rfl ?_
  obtain ⟨μ3, e_μ3, h⟩ := nm_some h
  refine cv_put (.inl (.int 0)) 0 hG okC (tv_7_7 hv0) fl_Setup_53_3 rfl rfl okv_int d_Setup_clear_21 ?_
  intro G hG; rw [← e_μ3] at hG
  refine ev_aload_n (k0 := 0) rfl d_Setup_clear_24 ?_
  refine cw_iconst 0 d_Setup_clear_25 rfl ?_
  obtain ⟨μ4, e_μ4, h⟩ := nm_some h
  refine cv_put (.inl (.int 0)) 0 hG okC hv0 fl_Setup_50_7 rfl rfl okv_int d_Setup_clear_26 ?_
  intro G hG; rw [← e_μ4] at hG
  have hP := kE _ (Option.some.inj h).symm
  exact ev_return (st := []) rfl d_Setup_clear_29 (by rw [hP]; exact ⟨rfl, hG, rfl⟩)

/-- ProphecyShop$Reader.isBlank -/
def f_Reader_isBlank (K : Nat) (x0 : Int32) (μ : Mem) : Option (Int32) :=
  if x0 = 32 then some 1 else (if x0 = 10 then some 1 else (some 0))
set_option maxRecDepth 100000 in
set_option maxHeartbeats 4000000 in
theorem w_Reader_isBlank_8 {g : GL} {F G : RG} {nx : Nat} (d : Nat) {x0 : Int32} {μ : Mem}   {o : Int32} (hG : LM vc 0 535 μ F G) (h : f_Reader_isBlank 8 x0 μ = some o) : Mt g (d + 0) m_Reader_isBlank [.inl (.int x0)] (G, nx) 0 0 (pRO (rI o) (G, nx)) := by
  unfold f_Reader_isBlank at h
  have kE : ∀ v, o = v → pRO (rI o) (G, nx) = pRO (rI v) (G, nx) := fun v e => by subst e; rfl
  refine Mt.of9 [some (.inl (.int x0))] (by decide +kernel) rfl rfl rfl rfl ?_
  refine ev_iload_n (k0 := 0) rfl d_Reader_isBlank_0 ?_
  refine cw_bipush 32 d_Reader_isBlank_1 rfl ?_
  refine ev_icmp_eq (tgt := 12) (by decide) d_Reader_isBlank_3 (fun c => ?_) (fun c => ?_)
  · rw [if_pos c] at h
    refine cw_iconst 1 d_Reader_isBlank_12 rfl ?_
    refine ev_goto (tgt := 17) (by decide) d_Reader_isBlank_13 ?_
    have hP := kE _ (Option.some.inj h).symm
    exact ev_ireturn (st := []) rfl rfl d_Reader_isBlank_17 (by rw [hP]; exact ⟨rfl, rfl⟩)
  · rw [if_neg c] at h
    refine ev_iload_n (k0 := 0) rfl d_Reader_isBlank_6 ?_
    refine cw_bipush 10 d_Reader_isBlank_7 rfl ?_
    refine ev_icmp_ne (tgt := 16) (by decide) d_Reader_isBlank_9 (fun c => ?_) (fun c => ?_)
    · rw [if_neg c] at h
      refine cw_iconst 0 d_Reader_isBlank_16 rfl ?_
      have hP := kE _ (Option.some.inj h).symm
      exact ev_ireturn (st := []) rfl rfl d_Reader_isBlank_17 (by rw [hP]; exact ⟨rfl, rfl⟩)
    · rw [if_pos c] at h
      refine cw_iconst 1 d_Reader_isBlank_12 rfl ?_
      refine ev_goto (tgt := 17) (by decide) d_Reader_isBlank_13 ?_
      have hP := kE _ (Option.some.inj h).symm
      exact ev_ireturn (st := []) rfl rfl d_Reader_isBlank_17 (by rw [hP]; exact ⟨rfl, rfl⟩)

/-- ProphecyShop$Reader.kindOf -/
def f_Reader_kindOf (K : Nat) (x0 : Int32) (μ : Mem) : Option (Int32) :=
  if x0 = ((-1)) then some 0 else (if x0 < 97 then (if x0 < 48 then (if x0 = 59 then some x0 else (if x0 = 40 then some x0 else (if x0 = 41 then some x0 else (some 3)))) else (if (57 : Int32) < x0 then (if x0 = 59 then some x0 else (if x0 = 40 then some x0 else (if x0 = 41 then some x0 else (some 3)))) else (some 2))) else (if (122 : Int32) < x0 then (if x0 < 48 then (if x0 = 59 then some x0 else (if x0 = 40 then some x0 else (if x0 = 41 then some x0 else (some 3)))) else (if (57 : Int32) < x0 then (if x0 = 59 then some x0 else (if x0 = 40 then some x0 else (if x0 = 41 then some x0 else (some 3)))) else (some 2))) else (some 1)))
set_option maxRecDepth 100000 in
set_option maxHeartbeats 4000000 in
theorem w_Reader_kindOf_8 {g : GL} {F G : RG} {nx : Nat} (d : Nat) {x0 : Int32} {μ : Mem}   {o : Int32} (hG : LM vc 0 535 μ F G) (h : f_Reader_kindOf 8 x0 μ = some o) : Mt g (d + 0) m_Reader_kindOf [.inl (.int x0)] (G, nx) 0 0 (pRO (rI o) (G, nx)) := by
  unfold f_Reader_kindOf at h
  have kE : ∀ v, o = v → pRO (rI o) (G, nx) = pRO (rI v) (G, nx) := fun v e => by subst e; rfl
  refine Mt.of9 [some (.inl (.int x0))] (by decide +kernel) rfl rfl rfl rfl ?_
  refine ev_iload_n (k0 := 0) rfl d_Reader_kindOf_0 ?_
  refine cw_iconst (-1) d_Reader_kindOf_1 rfl ?_
  refine ev_icmp_ne (tgt := 7) (by decide) d_Reader_kindOf_2 (fun c => ?_) (fun c => ?_)
  · rw [if_neg c] at h
    refine ev_iload_n (k0 := 0) rfl d_Reader_kindOf_7 ?_
    refine cw_bipush 97 d_Reader_kindOf_8 rfl ?_
    refine ev_icmp_lt (tgt := 21) (by decide) d_Reader_kindOf_10 (fun c => ?_) (fun c => ?_)
    · rw [if_pos c] at h
      refine ev_iload_n (k0 := 0) rfl d_Reader_kindOf_21 ?_
      refine cw_bipush 48 d_Reader_kindOf_22 rfl ?_
      refine ev_icmp_lt (tgt := 35) (by decide) d_Reader_kindOf_24 (fun c => ?_) (fun c => ?_)
      · rw [if_pos c] at h
        refine ev_iload_n (k0 := 0) rfl d_Reader_kindOf_35 ?_
        refine cw_bipush 59 d_Reader_kindOf_36 rfl ?_
        refine ev_icmp_eq (tgt := 53) (by decide) d_Reader_kindOf_38 (fun c => ?_) (fun c => ?_)
        · rw [if_pos c] at h
          refine ev_iload_n (k0 := 0) rfl d_Reader_kindOf_53 ?_
          refine ev_goto (tgt := 58) (by decide) d_Reader_kindOf_54 ?_
          have hP := kE _ (Option.some.inj h).symm
          exact ev_ireturn (st := []) rfl rfl d_Reader_kindOf_58 (by rw [hP]; exact ⟨rfl, rfl⟩)
        · rw [if_neg c] at h
          refine ev_iload_n (k0 := 0) rfl d_Reader_kindOf_41 ?_
          refine cw_bipush 40 d_Reader_kindOf_42 rfl ?_
          refine ev_icmp_eq (tgt := 53) (by decide) d_Reader_kindOf_44 (fun c => ?_) (fun c => ?_)
          · rw [if_pos c] at h
            refine ev_iload_n (k0 := 0) rfl d_Reader_kindOf_53 ?_
            refine ev_goto (tgt := 58) (by decide) d_Reader_kindOf_54 ?_
            have hP := kE _ (Option.some.inj h).symm
            exact ev_ireturn (st := []) rfl rfl d_Reader_kindOf_58 (by rw [hP]; exact ⟨rfl, rfl⟩)
          · rw [if_neg c] at h
            refine ev_iload_n (k0 := 0) rfl d_Reader_kindOf_47 ?_
            refine cw_bipush 41 d_Reader_kindOf_48 rfl ?_
            refine ev_icmp_ne (tgt := 57) (by decide) d_Reader_kindOf_50 (fun c => ?_) (fun c => ?_)
            · rw [if_neg c] at h
              refine cw_iconst 3 d_Reader_kindOf_57 rfl ?_
              have hP := kE _ (Option.some.inj h).symm
              exact ev_ireturn (st := []) rfl rfl d_Reader_kindOf_58 (by rw [hP]; exact ⟨rfl, rfl⟩)
            · rw [if_pos c] at h
              refine ev_iload_n (k0 := 0) rfl d_Reader_kindOf_53 ?_
              refine ev_goto (tgt := 58) (by decide) d_Reader_kindOf_54 ?_
              have hP := kE _ (Option.some.inj h).symm
              exact ev_ireturn (st := []) rfl rfl d_Reader_kindOf_58 (by rw [hP]; exact ⟨rfl, rfl⟩)
      · rw [if_neg c] at h
        refine ev_iload_n (k0 := 0) rfl d_Reader_kindOf_27 ?_
        refine cw_bipush 57 d_Reader_kindOf_28 rfl ?_
        refine ev_icmp_gt (tgt := 35) (by decide) d_Reader_kindOf_30 (fun c => ?_) (fun c => ?_)
        · rw [if_pos c] at h
          refine ev_iload_n (k0 := 0) rfl d_Reader_kindOf_35 ?_
          refine cw_bipush 59 d_Reader_kindOf_36 rfl ?_
          refine ev_icmp_eq (tgt := 53) (by decide) d_Reader_kindOf_38 (fun c => ?_) (fun c => ?_)
          · rw [if_pos c] at h
            refine ev_iload_n (k0 := 0) rfl d_Reader_kindOf_53 ?_
            refine ev_goto (tgt := 58) (by decide) d_Reader_kindOf_54 ?_
            have hP := kE _ (Option.some.inj h).symm
            exact ev_ireturn (st := []) rfl rfl d_Reader_kindOf_58 (by rw [hP]; exact ⟨rfl, rfl⟩)
          · rw [if_neg c] at h
            refine ev_iload_n (k0 := 0) rfl d_Reader_kindOf_41 ?_
            refine cw_bipush 40 d_Reader_kindOf_42 rfl ?_
            refine ev_icmp_eq (tgt := 53) (by decide) d_Reader_kindOf_44 (fun c => ?_) (fun c => ?_)
            · rw [if_pos c] at h
              refine ev_iload_n (k0 := 0) rfl d_Reader_kindOf_53 ?_
              refine ev_goto (tgt := 58) (by decide) d_Reader_kindOf_54 ?_
              have hP := kE _ (Option.some.inj h).symm
              exact ev_ireturn (st := []) rfl rfl d_Reader_kindOf_58 (by rw [hP]; exact ⟨rfl, rfl⟩)
            · rw [if_neg c] at h
              refine ev_iload_n (k0 := 0) rfl d_Reader_kindOf_47 ?_
              refine cw_bipush 41 d_Reader_kindOf_48 rfl ?_
              refine ev_icmp_ne (tgt := 57) (by decide) d_Reader_kindOf_50 (fun c => ?_) (fun c => ?_)
              · rw [if_neg c] at h
                refine cw_iconst 3 d_Reader_kindOf_57 rfl ?_
                have hP := kE _ (Option.some.inj h).symm
                exact ev_ireturn (st := []) rfl rfl d_Reader_kindOf_58 (by rw [hP]; exact ⟨rfl, rfl⟩)
              · rw [if_pos c] at h
                refine ev_iload_n (k0 := 0) rfl d_Reader_kindOf_53 ?_
                refine ev_goto (tgt := 58) (by decide) d_Reader_kindOf_54 ?_
                have hP := kE _ (Option.some.inj h).symm
                exact ev_ireturn (st := []) rfl rfl d_Reader_kindOf_58 (by rw [hP]; exact ⟨rfl, rfl⟩)
        · rw [if_neg c] at h
          refine cw_iconst 2 d_Reader_kindOf_33 rfl ?_
          have hP := kE _ (Option.some.inj h).symm
          exact ev_ireturn (st := []) rfl rfl d_Reader_kindOf_34 (by rw [hP]; exact ⟨rfl, rfl⟩)
    · rw [if_neg c] at h
      refine ev_iload_n (k0 := 0) rfl d_Reader_kindOf_13 ?_
      refine cw_bipush 122 d_Reader_kindOf_14 rfl ?_
      refine ev_icmp_gt (tgt := 21) (by decide) d_Reader_kindOf_16 (fun c => ?_) (fun c => ?_)
      · rw [if_pos c] at h
        refine ev_iload_n (k0 := 0) rfl d_Reader_kindOf_21 ?_
        refine cw_bipush 48 d_Reader_kindOf_22 rfl ?_
        refine ev_icmp_lt (tgt := 35) (by decide) d_Reader_kindOf_24 (fun c => ?_) (fun c => ?_)
        · rw [if_pos c] at h
          refine ev_iload_n (k0 := 0) rfl d_Reader_kindOf_35 ?_
          refine cw_bipush 59 d_Reader_kindOf_36 rfl ?_
          refine ev_icmp_eq (tgt := 53) (by decide) d_Reader_kindOf_38 (fun c => ?_) (fun c => ?_)
          · rw [if_pos c] at h
            refine ev_iload_n (k0 := 0) rfl d_Reader_kindOf_53 ?_
            refine ev_goto (tgt := 58) (by decide) d_Reader_kindOf_54 ?_
            have hP := kE _ (Option.some.inj h).symm
            exact ev_ireturn (st := []) rfl rfl d_Reader_kindOf_58 (by rw [hP]; exact ⟨rfl, rfl⟩)
          · rw [if_neg c] at h
            refine ev_iload_n (k0 := 0) rfl d_Reader_kindOf_41 ?_
            refine cw_bipush 40 d_Reader_kindOf_42 rfl ?_
            refine ev_icmp_eq (tgt := 53) (by decide) d_Reader_kindOf_44 (fun c => ?_) (fun c => ?_)
            · rw [if_pos c] at h
              refine ev_iload_n (k0 := 0) rfl d_Reader_kindOf_53 ?_
              refine ev_goto (tgt := 58) (by decide) d_Reader_kindOf_54 ?_
              have hP := kE _ (Option.some.inj h).symm
              exact ev_ireturn (st := []) rfl rfl d_Reader_kindOf_58 (by rw [hP]; exact ⟨rfl, rfl⟩)
            · rw [if_neg c] at h
              refine ev_iload_n (k0 := 0) rfl d_Reader_kindOf_47 ?_
              refine cw_bipush 41 d_Reader_kindOf_48 rfl ?_
              refine ev_icmp_ne (tgt := 57) (by decide) d_Reader_kindOf_50 (fun c => ?_) (fun c => ?_)
              · rw [if_neg c] at h
                refine cw_iconst 3 d_Reader_kindOf_57 rfl ?_
                have hP := kE _ (Option.some.inj h).symm
                exact ev_ireturn (st := []) rfl rfl d_Reader_kindOf_58 (by rw [hP]; exact ⟨rfl, rfl⟩)
              · rw [if_pos c] at h
                refine ev_iload_n (k0 := 0) rfl d_Reader_kindOf_53 ?_
                refine ev_goto (tgt := 58) (by decide) d_Reader_kindOf_54 ?_
                have hP := kE _ (Option.some.inj h).symm
                exact ev_ireturn (st := []) rfl rfl d_Reader_kindOf_58 (by rw [hP]; exact ⟨rfl, rfl⟩)
        · rw [if_neg c] at h
          refine ev_iload_n (k0 := 0) rfl d_Reader_kindOf_27 ?_
          refine cw_bipush 57 d_Reader_kindOf_28 rfl ?_
          refine ev_icmp_gt (tgt := 35) (by decide) d_Reader_kindOf_30 (fun c => ?_) (fun c => ?_)
          · rw [if_pos c] at h
            refine ev_iload_n (k0 := 0) rfl d_Reader_kindOf_35 ?_
            refine cw_bipush 59 d_Reader_kindOf_36 rfl ?_
            refine ev_icmp_eq (tgt := 53) (by decide) d_Reader_kindOf_38 (fun c => ?_) (fun c => ?_)
            · rw [if_pos c] at h
              refine ev_iload_n (k0 := 0) rfl d_Reader_kindOf_53 ?_
              refine ev_goto (tgt := 58) (by decide) d_Reader_kindOf_54 ?_
              have hP := kE _ (Option.some.inj h).symm
              exact ev_ireturn (st := []) rfl rfl d_Reader_kindOf_58 (by rw [hP]; exact ⟨rfl, rfl⟩)
            · rw [if_neg c] at h
              refine ev_iload_n (k0 := 0) rfl d_Reader_kindOf_41 ?_
              refine cw_bipush 40 d_Reader_kindOf_42 rfl ?_
              refine ev_icmp_eq (tgt := 53) (by decide) d_Reader_kindOf_44 (fun c => ?_) (fun c => ?_)
              · rw [if_pos c] at h
                refine ev_iload_n (k0 := 0) rfl d_Reader_kindOf_53 ?_
                refine ev_goto (tgt := 58) (by decide) d_Reader_kindOf_54 ?_
                have hP := kE _ (Option.some.inj h).symm
                exact ev_ireturn (st := []) rfl rfl d_Reader_kindOf_58 (by rw [hP]; exact ⟨rfl, rfl⟩)
              · rw [if_neg c] at h
                refine ev_iload_n (k0 := 0) rfl d_Reader_kindOf_47 ?_
                refine cw_bipush 41 d_Reader_kindOf_48 rfl ?_
                refine ev_icmp_ne (tgt := 57) (by decide) d_Reader_kindOf_50 (fun c => ?_) (fun c => ?_)
                · rw [if_neg c] at h
                  refine cw_iconst 3 d_Reader_kindOf_57 rfl ?_
                  have hP := kE _ (Option.some.inj h).symm
                  exact ev_ireturn (st := []) rfl rfl d_Reader_kindOf_58 (by rw [hP]; exact ⟨rfl, rfl⟩)
                · rw [if_pos c] at h
                  refine ev_iload_n (k0 := 0) rfl d_Reader_kindOf_53 ?_
                  refine ev_goto (tgt := 58) (by decide) d_Reader_kindOf_54 ?_
                  have hP := kE _ (Option.some.inj h).symm
                  exact ev_ireturn (st := []) rfl rfl d_Reader_kindOf_58 (by rw [hP]; exact ⟨rfl, rfl⟩)
          · rw [if_neg c] at h
            refine cw_iconst 2 d_Reader_kindOf_33 rfl ?_
            have hP := kE _ (Option.some.inj h).symm
            exact ev_ireturn (st := []) rfl rfl d_Reader_kindOf_34 (by rw [hP]; exact ⟨rfl, rfl⟩)
      · rw [if_neg c] at h
        refine cw_iconst 1 d_Reader_kindOf_19 rfl ?_
        have hP := kE _ (Option.some.inj h).symm
        exact ev_ireturn (st := []) rfl rfl d_Reader_kindOf_20 (by rw [hP]; exact ⟨rfl, rfl⟩)
  · rw [if_pos c] at h
    refine cw_iconst 0 d_Reader_kindOf_5 rfl ?_
    have hP := kE _ (Option.some.inj h).symm
    exact ev_ireturn (st := []) rfl rfl d_Reader_kindOf_6 (by rw [hP]; exact ⟨rfl, rfl⟩)

/-- ProphecyShop$Reader.next -/
def s_Reader_next_8 (K : Nat)  (μ : Mem) : Option ((Mem) ⊕ (Mem)) :=
  ((f_Text_size μ)).bind (fun r1 => if r1 ≤ (μ K 0 2) then (some (.inr μ)) else (((f_Text_at (μ K 0 2) μ)).bind (fun r2 => ((f_Reader_isBlank K r2 μ)).bind (fun r3 => if r3 = 0 then (some (.inr μ)) else (nm (st3 μ K 0 2 ((μ K 0 2) + 1)) (fun μ4 => some (.inl μ4)))))))
def s_Reader_next_110 (K : Nat)  (μ : Mem) : Option ((Mem) ⊕ (Mem)) :=
  ((f_Text_size μ)).bind (fun r1 => if r1 ≤ (μ K 0 3) then (some (.inr μ)) else (((f_Text_at (μ K 0 3) μ)).bind (fun r2 => ((f_Reader_kindOf K r2 μ)).bind (fun r3 => if r3 = (μ K 0 1) then (nm (st3 μ K 0 3 ((μ K 0 3) + 1)) (fun μ4 => some (.inl μ4))) else (some (.inr μ))))))
def f_Reader_next (K : Nat) (μ : Mem) : Option (Mem) :=
  nm (st3 μ K 0 2 (μ K 0 3)) (fun μ1 => (it (fun (s : Mem) => s_Reader_next_8 K s) LIM μ1).bind (fun q2 => ((f_Text_at (q2 K 0 2) q2)).bind (fun r3 => ((f_Reader_kindOf K r3 q2)).bind (fun r4 => nm (st3 q2 K 0 1 r4) (fun μ5 => ((if (μ5 K 0 1) = 0 then (some (μ5 K 0 2)) else (some ((μ5 K 0 2) + 1)) : Option (Int32))).bind (fun q6 => nm (st3 μ5 K 0 3 q6) (fun μ7 => if (μ7 K 0 1) = 1 then ((it (fun (s : Mem) => s_Reader_next_110 K s) LIM μ7).bind (fun q8 => some q8)) else (if (μ7 K 0 1) = 2 then ((it (fun (s : Mem) => s_Reader_next_110 K s) LIM μ7).bind (fun q9 => some q9)) else (some μ7)))))))))
set_option maxRecDepth 100000 in
set_option maxHeartbeats 4000000 in
theorem ws_Reader_next_8_8 {g : GL} {F G : RG} {nx mc ms : Nat} {Post : RO → RM → Prop} (d : Nat)   {μ : Mem}   {o : (Mem) ⊕ (Mem)} (hG : LM vc 0 535 μ F G) (h : s_Reader_next_8 8  μ = some o)
    (kC : ∀ s', o = .inl s' → ∀ G, LM vc 0 535 s' F G → Ev g (d + 1) m_Reader_next 8 [some (.inr (0, off 8 0))] [] (G, nx) mc ms Post)
    (kX : ∀ r, o = .inr r → ∀ G, LM vc 0 535 r F G → Ev g (d + 1) m_Reader_next 52 [some (.inr (0, off 8 0))] [] (G, nx) mc ms Post)
    : Ev g (d + 1) m_Reader_next 8 [some (.inr (0, off 8 0))] [] (G, nx) mc ms Post := by
  unfold s_Reader_next_8 at h
  refine ev_aload_n (k0 := 0) rfl d_Reader_next_8 ?_
  refine cv_get9 (.inl (.int (μ 8 0 2))) hG v_8 fg_Reader_15_8 rfl rfl d_Reader_next_9 ?_
  refine ev_aload_n (k0 := 0) rfl d_Reader_next_12 ?_
  refine cv_get9 (.inr (0, off 11 0)) hG v_8 fg_Reader_27_8 rfl rfl d_Reader_next_13 ?_
  obtain ⟨r1, hr1, h⟩ := bind_some9 h
  refine Ev.z9 ?_
  refine cv_V (d := d + 0) (mc1 := 0) (ms1 := 0) (mc := mc) (ms := ms) [] hG v_11 rfl lk_Reader_34 (w_Text_size (d + 0) hG hr1) rfl rfl d_Reader_next_16 (aft_ro ?_)
  refine Ev.at (pc' := 19) rfl (Ev.cong (st' := [.inl (.int r1), .inl (.int (μ 8 0 2))]) ?_ rfl rfl)
  refine ev_icmp_ge (tgt := 52) (by decide) d_Reader_next_19 (fun c => ?_) (fun c => ?_)
  · rw [if_pos c] at h
    exact kX _ (Option.some.inj h).symm G hG
  · rw [if_neg c] at h
    refine ev_aload_n (k0 := 0) rfl d_Reader_next_22 ?_
    refine cv_get9 (.inr (0, off 11 0)) hG v_8 fg_Reader_27_8 rfl rfl d_Reader_next_23 ?_
    refine ev_aload_n (k0 := 0) rfl d_Reader_next_26 ?_
    refine cv_get9 (.inl (.int (μ 8 0 2))) hG v_8 fg_Reader_15_8 rfl rfl d_Reader_next_27 ?_
    obtain ⟨r2, hr2, h⟩ := bind_some9 h
    refine Ev.z9 ?_
    refine cv_V (d := d + 0) (mc1 := 0) (ms1 := 0) (mc := mc) (ms := ms) [.inl (.int (μ 8 0 2))] hG v_11 rfl lk_Reader_40 (w_Text_at (d + 0) hG hr2) rfl rfl d_Reader_next_30 (aft_ro ?_)
    refine Ev.at (pc' := 33) rfl (Ev.cong (st' := [.inl (.int r2)]) ?_ rfl rfl)
    obtain ⟨r3, hr3, h⟩ := bind_some9 h
    refine Ev.z9 ?_
    refine cw_S (d := d + 0) (mc1 := 0) (ms1 := 0) (mc := mc) (ms := ms) [.inl (.int r2)] lk_Reader_44 (w_Reader_isBlank_8 (d + 0) hG hr3) rfl rfl d_Reader_next_33 (aft_ro ?_)
    refine Ev.at (pc' := 36) rfl (Ev.cong (st' := [.inl (.int r3)]) ?_ rfl rfl)
    refine ev_if_eq (tgt := 52) (by decide) d_Reader_next_36 (fun c => ?_) (fun c => ?_)
    · rw [if_pos c] at h
      exact kX _ (Option.some.inj h).symm G hG
    · rw [if_neg c] at h
      refine ev_aload_n (k0 := 0) rfl d_Reader_next_39 ?_
      refine ev_dup rfl d_Reader_next_40 ?_
      refine cv_get9 (.inl (.int (μ 8 0 2))) hG v_8 fg_Reader_15_8 rfl rfl d_Reader_next_41 ?_
      refine cw_iconst 1 d_Reader_next_44 rfl ?_
      refine ev_iadd d_Reader_next_45 ?_
      obtain ⟨μ4, e_μ4, h⟩ := nm_some h
      refine cv_put (.inl (.int ((μ 8 0 2) + 1))) ((μ 8 0 2) + 1) hG okC v_8 fl_Reader_15_8 rfl rfl okv_int d_Reader_next_46 ?_
      intro G hG; rw [← e_μ4] at hG
      refine ev_goto (tgt := 8) (by decide) d_Reader_next_49 ?_
      exact kC _ (Option.some.inj h).symm G hG
set_option maxRecDepth 100000 in
set_option maxHeartbeats 4000000 in
theorem ws_Reader_next_110_8 {g : GL} {F G : RG} {nx mc ms : Nat} {Post : RO → RM → Prop} (d : Nat)   {μ : Mem}   {o : (Mem) ⊕ (Mem)} (hG : LM vc 0 535 μ F G) (h : s_Reader_next_110 8  μ = some o)
    (kC : ∀ s', o = .inl s' → ∀ G, LM vc 0 535 s' F G → Ev g (d + 1) m_Reader_next 110 [some (.inr (0, off 8 0))] [] (G, nx) mc ms Post)
    (kX : ∀ r, o = .inr r → ∀ G, LM vc 0 535 r F G → Ev g (d + 1) m_Reader_next 158 [none] [] (G, nx) mc ms Post)
    : Ev g (d + 1) m_Reader_next 110 [some (.inr (0, off 8 0))] [] (G, nx) mc ms Post := by
  unfold s_Reader_next_110 at h
  refine ev_aload_n (k0 := 0) rfl d_Reader_next_110 ?_
  refine cv_get9 (.inl (.int (μ 8 0 3))) hG v_8 fg_Reader_18_8 rfl rfl d_Reader_next_111 ?_
  refine ev_aload_n (k0 := 0) rfl d_Reader_next_114 ?_
  refine cv_get9 (.inr (0, off 11 0)) hG v_8 fg_Reader_27_8 rfl rfl d_Reader_next_115 ?_
  obtain ⟨r1, hr1, h⟩ := bind_some9 h
  refine Ev.z9 ?_
  refine cv_V (d := d + 0) (mc1 := 0) (ms1 := 0) (mc := mc) (ms := ms) [] hG v_11 rfl lk_Reader_34 (w_Text_size (d + 0) hG hr1) rfl rfl d_Reader_next_118 (aft_ro ?_)
  refine Ev.at (pc' := 121) rfl (Ev.cong (st' := [.inl (.int r1), .inl (.int (μ 8 0 3))]) ?_ rfl rfl)
  refine ev_icmp_ge (tgt := 158) (by decide) d_Reader_next_121 (fun c => ?_) (fun c => ?_)
  · rw [if_pos c] at h
    exact Ev.sub (.n LSb.z) (kX _ (Option.some.inj h).symm G hG)
  · rw [if_neg c] at h
    refine ev_aload_n (k0 := 0) rfl d_Reader_next_124 ?_
    refine cv_get9 (.inr (0, off 11 0)) hG v_8 fg_Reader_27_8 rfl rfl d_Reader_next_125 ?_
    refine ev_aload_n (k0 := 0) rfl d_Reader_next_128 ?_
    refine cv_get9 (.inl (.int (μ 8 0 3))) hG v_8 fg_Reader_18_8 rfl rfl d_Reader_next_129 ?_
    obtain ⟨r2, hr2, h⟩ := bind_some9 h
    refine Ev.z9 ?_
    refine cv_V (d := d + 0) (mc1 := 0) (ms1 := 0) (mc := mc) (ms := ms) [.inl (.int (μ 8 0 3))] hG v_11 rfl lk_Reader_40 (w_Text_at (d + 0) hG hr2) rfl rfl d_Reader_next_132 (aft_ro ?_)
    refine Ev.at (pc' := 135) rfl (Ev.cong (st' := [.inl (.int r2)]) ?_ rfl rfl)
    obtain ⟨r3, hr3, h⟩ := bind_some9 h
    refine Ev.z9 ?_
    refine cw_S (d := d + 0) (mc1 := 0) (ms1 := 0) (mc := mc) (ms := ms) [.inl (.int r2)] lk_Reader_48 (w_Reader_kindOf_8 (d + 0) hG hr3) rfl rfl d_Reader_next_135 (aft_ro ?_)
    refine Ev.at (pc' := 138) rfl (Ev.cong (st' := [.inl (.int r3)]) ?_ rfl rfl)
    refine ev_aload_n (k0 := 0) rfl d_Reader_next_138 ?_
    refine cv_get9 (.inl (.int (μ 8 0 1))) hG v_8 fg_Reader_11_8 rfl rfl d_Reader_next_139 ?_
    refine ev_icmp_ne (tgt := 158) (by decide) d_Reader_next_142 (fun c => ?_) (fun c => ?_)
    · rw [if_neg c] at h
      exact Ev.sub (.n LSb.z) (kX _ (Option.some.inj h).symm G hG)
    · rw [if_pos c] at h
      refine ev_aload_n (k0 := 0) rfl d_Reader_next_145 ?_
      refine ev_dup rfl d_Reader_next_146 ?_
      refine cv_get9 (.inl (.int (μ 8 0 3))) hG v_8 fg_Reader_18_8 rfl rfl d_Reader_next_147 ?_
      refine cw_iconst 1 d_Reader_next_150 rfl ?_
      refine ev_iadd d_Reader_next_151 ?_
      obtain ⟨μ4, e_μ4, h⟩ := nm_some h
      refine cv_put (.inl (.int ((μ 8 0 3) + 1))) ((μ 8 0 3) + 1) hG okC v_8 fl_Reader_18_8 rfl rfl okv_int d_Reader_next_152 ?_
      intro G hG; rw [← e_μ4] at hG
      refine ev_goto (tgt := 110) (by decide) d_Reader_next_155 ?_
      exact kC _ (Option.some.inj h).symm G hG
set_option maxRecDepth 100000 in
set_option maxHeartbeats 4000000 in
theorem w_Reader_next_8 {g : GL} {F G : RG} {nx : Nat} (d : Nat)  {μ : Mem}   {o : Mem} (hG : LM vc 0 535 μ F G) (h : f_Reader_next 8 μ = some o) : Mt g (d + 1) m_Reader_next [.inr (0, off 8 0)] (G, nx) 0 0 (pRW vc 0 535 rV o F nx) := by
  unfold f_Reader_next at h
  have kE : ∀ v, o = v → pRW vc 0 535 rV o F nx = pRW vc 0 535 rV v F nx := fun v e => by subst e; rfl
  refine Mt.of9 [some (.inr (0, off 8 0))] (by decide +kernel) rfl rfl rfl rfl ?_
  refine ev_aload_n (k0 := 0) rfl d_Reader_next_0 ?_
  refine ev_aload_n (k0 := 0) rfl d_Reader_next_1 ?_
  refine cv_get9 (.inl (.int (μ 8 0 3))) hG v_8 fg_Reader_18_8 rfl rfl d_Reader_next_2 ?_
  obtain ⟨μ1, e_μ1, h⟩ := nm_some h
  refine cv_put (.inl (.int (μ 8 0 3))) (μ 8 0 3) hG okC v_8 fl_Reader_15_8 rfl rfl okv_int d_Reader_next_5 ?_
  intro G hG; rw [← e_μ1] at hG
  obtain ⟨q2, hl, h⟩ := bind_some9 h
  refine it_ev (W := fun (s : Mem) => ∀ G, LM vc 0 535 s F G → Ev g (d + 1) m_Reader_next 8 [some (.inr (0, off 8 0))] [] (G, nx) 0 0 (pRW vc 0 535 rV o F nx)) (X := fun z => z = q2) rfl (fun s9 o9 hs kC9 kX9 => ?_) LIM _ hl G hG
  intro G hG
  refine ws_Reader_next_8_8 d  hG hs kC9 (fun r_ e G hG => ?_)
  · obtain rfl := (kX9 _ e).symm
    refine ev_aload_n (k0 := 0) rfl d_Reader_next_52 ?_
    refine ev_aload_n (k0 := 0) rfl d_Reader_next_53 ?_
    refine cv_get9 (.inr (0, off 11 0)) hG v_8 fg_Reader_27_8 rfl rfl d_Reader_next_54 ?_
    refine ev_aload_n (k0 := 0) rfl d_Reader_next_57 ?_
    refine cv_get9 (.inl (.int (q2 8 0 2))) hG v_8 fg_Reader_15_8 rfl rfl d_Reader_next_58 ?_
    obtain ⟨r3, hr3, h⟩ := bind_some9 h
    refine cv_V (d := d + 0) (mc1 := 0) (ms1 := 0) (mc := 0) (ms := 0) [.inl (.int (q2 8 0 2))] hG v_11 rfl lk_Reader_40 (w_Text_at (d + 0) hG hr3) rfl rfl d_Reader_next_61 (aft_ro ?_)
    refine Ev.at (pc' := 64) rfl (Ev.cong (st' := [.inl (.int r3), .inr (0, off 8 0)]) ?_ rfl rfl)
    obtain ⟨r4, hr4, h⟩ := bind_some9 h
    refine cw_S (d := d + 0) (mc1 := 0) (ms1 := 0) (mc := 0) (ms := 0) [.inl (.int r3)] lk_Reader_48 (w_Reader_kindOf_8 (d + 0) hG hr4) rfl rfl d_Reader_next_64 (aft_ro ?_)
    refine Ev.at (pc' := 67) rfl (Ev.cong (st' := [.inl (.int r4), .inr (0, off 8 0)]) ?_ rfl rfl)
    obtain ⟨μ5, e_μ5, h⟩ := nm_some h
    refine cv_put (.inl (.int r4)) r4 hG okC v_8 fl_Reader_11_8 rfl rfl okv_int d_Reader_next_67 ?_
    intro G hG; rw [← e_μ5] at hG
    refine ev_aload_n (k0 := 0) rfl d_Reader_next_70 ?_
    refine ev_aload_n (k0 := 0) rfl d_Reader_next_71 ?_
    refine cv_get9 (.inl (.int (μ5 8 0 1))) hG v_8 fg_Reader_11_8 rfl rfl d_Reader_next_72 ?_
    obtain ⟨q6, hj, h⟩ := bind_some9 h
    have K_q6 : Ev g (d + 1) m_Reader_next 91 [some (.inr (0, off 8 0))] [.inl (.int q6), .inr (0, off 8 0)] (G, nx) 0 0 (pRW vc 0 535 rV o F nx) := by
      obtain ⟨μ7, e_μ7, h⟩ := nm_some h
      refine cv_put (.inl (.int q6)) q6 hG okC v_8 fl_Reader_18_8 rfl rfl okv_int d_Reader_next_91 ?_
      intro G hG; rw [← e_μ7] at hG
      refine ev_aload_n (k0 := 0) rfl d_Reader_next_94 ?_
      refine cv_get9 (.inl (.int (μ7 8 0 1))) hG v_8 fg_Reader_11_8 rfl rfl d_Reader_next_95 ?_
      refine cw_iconst 1 d_Reader_next_98 rfl ?_
      refine ev_icmp_eq (tgt := 110) (by decide) d_Reader_next_99 (fun c => ?_) (fun c => ?_)
      · rw [if_pos c] at h
        obtain ⟨q8, hl, h⟩ := bind_some9 h
        refine it_ev (W := fun (s : Mem) => ∀ G, LM vc 0 535 s F G → Ev g (d + 1) m_Reader_next 110 [some (.inr (0, off 8 0))] [] (G, nx) 0 0 (pRW vc 0 535 rV o F nx)) (X := fun z => z = q8) rfl (fun s9 o9 hs kC9 kX9 => ?_) LIM _ hl G hG
        intro G hG
        refine ws_Reader_next_110_8 d  hG hs kC9 (fun r_ e G hG => ?_)
        · obtain rfl := (kX9 _ e).symm
          have hP := kE _ (Option.some.inj h).symm
          exact ev_return (st := []) rfl d_Reader_next_158 (by rw [hP]; exact ⟨rfl, hG, rfl⟩)
      · rw [if_neg c] at h
        refine ev_aload_n (k0 := 0) rfl d_Reader_next_102 ?_
        refine cv_get9 (.inl (.int (μ7 8 0 1))) hG v_8 fg_Reader_11_8 rfl rfl d_Reader_next_103 ?_
        refine cw_iconst 2 d_Reader_next_106 rfl ?_
        refine ev_icmp_ne (tgt := 158) (by decide) d_Reader_next_107 (fun c => ?_) (fun c => ?_)
        · rw [if_neg c] at h
          have hP := kE _ (Option.some.inj h).symm
          exact ev_return (st := []) rfl d_Reader_next_158 (by rw [hP]; exact ⟨rfl, hG, rfl⟩)
        · rw [if_pos c] at h
          obtain ⟨q9, hl, h⟩ := bind_some9 h
          refine it_ev (W := fun (s : Mem) => ∀ G, LM vc 0 535 s F G → Ev g (d + 1) m_Reader_next 110 [some (.inr (0, off 8 0))] [] (G, nx) 0 0 (pRW vc 0 535 rV o F nx)) (X := fun z => z = q9) rfl (fun s9 o9 hs kC9 kX9 => ?_) LIM _ hl G hG
          intro G hG
          refine ws_Reader_next_110_8 d  hG hs kC9 (fun r_ e G hG => ?_)
          · obtain rfl := (kX9 _ e).symm
            have hP := kE _ (Option.some.inj h).symm
            exact ev_return (st := []) rfl d_Reader_next_158 (by rw [hP]; exact ⟨rfl, hG, rfl⟩)
    clear h
    have h := hj
    refine ev_if_ne (tgt := 85) (by decide) d_Reader_next_75 (fun c => ?_) (fun c => ?_)
    · rw [if_neg c] at h
      refine ev_aload_n (k0 := 0) rfl d_Reader_next_85 ?_
      refine cv_get9 (.inl (.int (μ5 8 0 2))) hG v_8 fg_Reader_15_8 rfl rfl d_Reader_next_86 ?_
      refine cw_iconst 1 d_Reader_next_89 rfl ?_
      refine ev_iadd d_Reader_next_90 ?_
      obtain rfl := Option.some.inj h
      exact K_q6
    · rw [if_pos c] at h
      refine ev_aload_n (k0 := 0) rfl d_Reader_next_78 ?_
      refine cv_get9 (.inl (.int (μ5 8 0 2))) hG v_8 fg_Reader_15_8 rfl rfl d_Reader_next_79 ?_
      refine ev_goto (tgt := 91) (by decide) d_Reader_next_82 ?_
      obtain rfl := Option.some.inj h
      exact K_q6

/-- ProphecyShop$Reader.begin -/
def f_Reader_begin (K : Nat) (μ : Mem) : Option (Mem) :=
  nm (st3 μ K 0 3 0) (fun μ1 => nm (st3 μ1 K 0 4 0) (fun μ2 => nm (st3 μ2 K 0 5 ((-1))) (fun μ3 => ((f_Reader_next K μ3)).bind (fun r4 => some r4))))
set_option maxRecDepth 100000 in
set_option maxHeartbeats 4000000 in
theorem w_Reader_begin_8 {g : GL} {F G : RG} {nx : Nat} (d : Nat)  {μ : Mem}   {o : Mem} (hG : LM vc 0 535 μ F G) (h : f_Reader_begin 8 μ = some o) : Mt g (d + 2) m_Reader_begin [.inr (0, off 8 0)] (G, nx) 0 0 (pRW vc 0 535 rV o F nx) := by
  unfold f_Reader_begin at h
  have kE : ∀ v, o = v → pRW vc 0 535 rV o F nx = pRW vc 0 535 rV v F nx := fun v e => by subst e; rfl
  refine Mt.of9 [some (.inr (0, off 8 0))] (by decide +kernel) rfl rfl rfl rfl ?_
  refine ev_aload_n (k0 := 0) rfl d_Reader_begin_0 ?_
  refine cw_iconst 0 d_Reader_begin_1 rfl ?_
  obtain ⟨μ1, e_μ1, h⟩ := nm_some h
  refine cv_put (.inl (.int 0)) 0 hG okC v_8 fl_Reader_18_8 rfl rfl okv_int d_Reader_begin_2 ?_
  intro G hG; rw [← e_μ1] at hG
  refine ev_aload_n (k0 := 0) rfl d_Reader_begin_5 ?_
  refine cw_iconst 0 d_Reader_begin_6 rfl ?_
  obtain ⟨μ2, e_μ2, h⟩ := nm_some h
  refine cv_put (.inl (.int 0)) 0 hG okC v_8 fl_Reader_21_8 rfl rfl okv_int d_Reader_begin_7 ?_
  intro G hG; rw [← e_μ2] at hG
  refine ev_aload_n (k0 := 0) rfl d_Reader_begin_10 ?_
  refine cw_iconst (-1) d_Reader_begin_11 rfl ?_
  obtain ⟨μ3, e_μ3, h⟩ := nm_some h
  refine cv_put (.inl (.int ((-1)))) ((-1)) hG okC v_8 fl_Reader_24_8 rfl rfl okv_int d_Reader_begin_12 ?_
  intro G hG; rw [← e_μ3] at hG
  refine ev_aload_n (k0 := 0) rfl d_Reader_begin_15 ?_
  obtain ⟨r4, hr4, h⟩ := bind_some9 h
  refine cv_U (d := d + 1) (mc1 := 0) (ms1 := 0) (mc := 0) (ms := 0) [] hG v_8 rfl lk_Reader_31_8 (w_Reader_next_8 (d + 0) hG hr4) rfl rfl d_Reader_begin_16 (aft_rw (fun G hG => ?_))
  refine Ev.at (pc' := 19) rfl (Ev.cong (st' := []) ?_ rfl rfl)
  have hP := kE _ (Option.some.inj h).symm
  exact ev_return (st := []) rfl d_Reader_begin_19 (by rw [hP]; exact ⟨rfl, hG, rfl⟩)

/-- ProphecyShop$Reader.sees -/
def s_Reader_sees_35 (K : Nat) (w1 : Nat) (x2 : Int32) (μ : Mem) : Option ((Int32) ⊕ ((Unit) ⊕ (Int32))) :=
  if (sLen w1) ≤ x2 then (some (.inr (.inl (())))) else (((f_Text_at ((μ K 0 2) + x2) μ)).bind (fun r1 => chk (inb x2 (sTx w1).length) (if r1 = (sAt w1 x2) then (some (.inl (x2 + 1))) else (some (.inr (.inr 0))))))
def f_Reader_sees (K : Nat) (w1 : Nat) (μ : Mem) : Option (Int32) :=
  if (μ K 0 4) = 0 then (if (μ K 0 1) = 1 then (if ((μ K 0 3) - (μ K 0 2)) = (sLen w1) then ((it (fun (s : Int32) => s_Reader_sees_35 K w1 s μ) LIM 0).bind (fun q1 => els q1 (fun r2 => some 1) (fun v => some v))) else (some 0)) else (some 0)) else (some 0)
set_option maxRecDepth 100000 in
set_option maxHeartbeats 4000000 in
theorem ws_Reader_sees_35_8 {g : GL} {F G : RG} {nx mc ms : Nat} {Post : RO → RM → Prop} (d : Nat) {w1 : Nat} {x2 : Int32} {μ : Mem} (hw1 : w1 < 28) (hSG : SG g) {o : (Int32) ⊕ ((Unit) ⊕ (Int32))} (hG : LM vc 0 535 μ F G) (h : s_Reader_sees_35 8 w1 x2 μ = some o)
    (kC : ∀ s', o = .inl s' → Ev g (d + 4) m_Reader_sees 35 [some (.inr (0, off 8 0)), some (.inr (1, w1)), some (.inl (.int s'))] [] (G, nx) mc ms Post)
    (kX : ∀ r, o = .inr (.inl r) → Ev g (d + 4) m_Reader_sees 72 [none, none, none] [] (G, nx) mc ms Post)
    (kE : ∀ v, o = .inr (.inr v) → Post = pRO (rI v) (G, nx)) : Ev g (d + 4) m_Reader_sees 35 [some (.inr (0, off 8 0)), some (.inr (1, w1)), some (.inl (.int x2))] [] (G, nx) mc ms Post := by
  unfold s_Reader_sees_35 at h
  refine ev_iload_n (k0 := 2) rfl d_Reader_sees_35 ?_
  refine ev_aload_n (k0 := 1) rfl d_Reader_sees_36 ?_
  refine cv_slen (d := d + 0) hSG hw1 lk_Reader_51 rfl d_Reader_sees_37 ?_
  refine ev_icmp_ge (tgt := 72) (by decide) d_Reader_sees_40 (fun c => ?_) (fun c => ?_)
  · rw [if_pos c] at h
    exact Ev.sub (.n (.n (.n LSb.z))) (kX _ (Option.some.inj h).symm)
  · rw [if_neg c] at h
    refine ev_aload_n (k0 := 0) rfl d_Reader_sees_43 ?_
    refine cv_get9 (.inr (0, off 11 0)) hG v_8 fg_Reader_27_8 rfl rfl d_Reader_sees_44 ?_
    refine ev_aload_n (k0 := 0) rfl d_Reader_sees_47 ?_
    refine cv_get9 (.inl (.int (μ 8 0 2))) hG v_8 fg_Reader_15_8 rfl rfl d_Reader_sees_48 ?_
    refine ev_iload_n (k0 := 2) rfl d_Reader_sees_51 ?_
    refine ev_iadd d_Reader_sees_52 ?_
    obtain ⟨r1, hr1, h⟩ := bind_some9 h
    refine Ev.z9 ?_
    refine cv_V (d := d + 3) (mc1 := 0) (ms1 := 0) (mc := mc) (ms := ms) [.inl (.int ((μ 8 0 2) + x2))] hG v_11 rfl lk_Reader_40 (w_Text_at (d + 3) hG hr1) rfl rfl d_Reader_sees_53 (aft_ro ?_)
    refine Ev.at (pc' := 56) rfl (Ev.cong (st' := [.inl (.int r1)]) ?_ rfl rfl)
    refine ev_aload_n (k0 := 1) rfl d_Reader_sees_56 ?_
    refine ev_iload_n (k0 := 2) rfl d_Reader_sees_57 ?_
    obtain ⟨b2, h⟩ := chk_some h
    refine cv_sat (d := d + 0) hSG hw1 b2 lk_Reader_56 rfl d_Reader_sees_58 ?_
    refine ev_icmp_eq (tgt := 66) (by decide) d_Reader_sees_61 (fun c => ?_) (fun c => ?_)
    · rw [if_pos c] at h
      refine cw_iincN 2 1 [some (.inr (0, off 8 0)), some (.inr (1, w1)), some (.inl (.int (x2 + 1)))] d_Reader_sees_66 rfl rfl rfl rfl rfl ?_
      refine ev_goto (tgt := 35) (by decide) d_Reader_sees_69 ?_
      exact kC _ (Option.some.inj h).symm
    · rw [if_neg c] at h
      refine cw_iconst 0 d_Reader_sees_64 rfl ?_
      have hP := kE _ (Option.some.inj h).symm
      exact ev_ireturn (st := []) rfl rfl d_Reader_sees_65 (by rw [hP]; exact ⟨rfl, rfl⟩)
set_option maxRecDepth 100000 in
set_option maxHeartbeats 4000000 in
theorem w_Reader_sees_8 {g : GL} {F G : RG} {nx : Nat} (d : Nat) {w1 : Nat} {μ : Mem} (hw1 : w1 < 28) (hSG : SG g) {o : Int32} (hG : LM vc 0 535 μ F G) (h : f_Reader_sees 8 w1 μ = some o) : Mt g (d + 4) m_Reader_sees [.inr (0, off 8 0), .inr (1, w1)] (G, nx) 0 0 (pRO (rI o) (G, nx)) := by
  unfold f_Reader_sees at h
  have kE : ∀ v, o = v → pRO (rI o) (G, nx) = pRO (rI v) (G, nx) := fun v e => by subst e; rfl
  refine Mt.of9 [some (.inr (0, off 8 0)), some (.inr (1, w1)), none] (by decide +kernel) rfl rfl rfl rfl ?_
  refine ev_aload_n (k0 := 0) rfl d_Reader_sees_0 ?_
  refine cv_get9 (.inl (.int (μ 8 0 4))) hG v_8 fg_Reader_21_8 rfl rfl d_Reader_sees_1 ?_
  refine ev_if_ne (tgt := 31) (by decide) d_Reader_sees_4 (fun c => ?_) (fun c => ?_)
  · rw [if_neg c] at h
    refine cw_iconst 0 d_Reader_sees_31 rfl ?_
    have hP := kE _ (Option.some.inj h).symm
    exact ev_ireturn (st := []) rfl rfl d_Reader_sees_32 (by rw [hP]; exact ⟨rfl, rfl⟩)
  · rw [if_pos c] at h
    refine ev_aload_n (k0 := 0) rfl d_Reader_sees_7 ?_
    refine cv_get9 (.inl (.int (μ 8 0 1))) hG v_8 fg_Reader_11_8 rfl rfl d_Reader_sees_8 ?_
    refine cw_iconst 1 d_Reader_sees_11 rfl ?_
    refine ev_icmp_ne (tgt := 31) (by decide) d_Reader_sees_12 (fun c => ?_) (fun c => ?_)
    · rw [if_neg c] at h
      refine cw_iconst 0 d_Reader_sees_31 rfl ?_
      have hP := kE _ (Option.some.inj h).symm
      exact ev_ireturn (st := []) rfl rfl d_Reader_sees_32 (by rw [hP]; exact ⟨rfl, rfl⟩)
    · rw [if_pos c] at h
      refine ev_aload_n (k0 := 0) rfl d_Reader_sees_15 ?_
      refine cv_get9 (.inl (.int (μ 8 0 3))) hG v_8 fg_Reader_18_8 rfl rfl d_Reader_sees_16 ?_
      refine ev_aload_n (k0 := 0) rfl d_Reader_sees_19 ?_
      refine cv_get9 (.inl (.int (μ 8 0 2))) hG v_8 fg_Reader_15_8 rfl rfl d_Reader_sees_20 ?_
      refine ev_isub d_Reader_sees_23 ?_
      refine ev_aload_n (k0 := 1) rfl d_Reader_sees_24 ?_
      refine cv_slen (d := d + 0) hSG hw1 lk_Reader_51 rfl d_Reader_sees_25 ?_
      refine ev_icmp_eq (tgt := 33) (by decide) d_Reader_sees_28 (fun c => ?_) (fun c => ?_)
      · rw [if_pos c] at h
        refine cw_iconst 0 d_Reader_sees_33 rfl ?_
        refine cw_istoreN_n 2 0 rfl [some (.inr (0, off 8 0)), some (.inr (1, w1)), some (.inl (.int 0))] d_Reader_sees_34 rfl rfl rfl ?_
        obtain ⟨q1, hl, h⟩ := bind_some9 h
        refine it_ev (W := fun (s : Int32) => Ev g (d + 4) m_Reader_sees 35 [some (.inr (0, off 8 0)), some (.inr (1, w1)), some (.inl (.int s))] [] (G, nx) 0 0 (pRO (rI o) (G, nx))) (X := fun z => z = q1) rfl (fun s9 o9 hs kC9 kX9 => ?_) LIM _ hl
        refine ws_Reader_sees_35_8 d hw1 hSG hG hs kC9 (fun r2 e => ?_) (fun v e => ?_)
        · obtain rfl := kX9 _ e
          rw [els_l] at h
          refine cw_iconst 1 d_Reader_sees_72 rfl ?_
          have hP := kE _ (Option.some.inj h).symm
          exact ev_ireturn (st := []) rfl rfl d_Reader_sees_73 (by rw [hP]; exact ⟨rfl, rfl⟩)
        · obtain rfl := kX9 _ e
          rw [els_r] at h
          exact kE _ (Option.some.inj h).symm
      · rw [if_neg c] at h
        refine cw_iconst 0 d_Reader_sees_31 rfl ?_
        have hP := kE _ (Option.some.inj h).symm
        exact ev_ireturn (st := []) rfl rfl d_Reader_sees_32 (by rw [hP]; exact ⟨rfl, rfl⟩)

/-- ProphecyShop$Reader.fail -/
def f_Reader_fail (K : Nat) (x1 : Int32) (μ : Mem) : Option (Mem) :=
  if (μ K 0 4) = 0 then (nm (st3 μ K 0 4 x1) (fun μ1 => nm (st3 μ1 K 0 5 (μ1 K 0 2)) (fun μ2 => some μ2))) else (some μ)
set_option maxRecDepth 100000 in
set_option maxHeartbeats 4000000 in
theorem w_Reader_fail_8 {g : GL} {F G : RG} {nx : Nat} (d : Nat) {x1 : Int32} {μ : Mem}   {o : Mem} (hG : LM vc 0 535 μ F G) (h : f_Reader_fail 8 x1 μ = some o) : Mt g (d + 0) m_Reader_fail [.inr (0, off 8 0), .inl (.int x1)] (G, nx) 0 0 (pRW vc 0 535 rV o F nx) := by
  unfold f_Reader_fail at h
  have kE : ∀ v, o = v → pRW vc 0 535 rV o F nx = pRW vc 0 535 rV v F nx := fun v e => by subst e; rfl
  refine Mt.of9 [some (.inr (0, off 8 0)), some (.inl (.int x1))] (by decide +kernel) rfl rfl rfl rfl ?_
  refine ev_aload_n (k0 := 0) rfl d_Reader_fail_0 ?_
  refine cv_get9 (.inl (.int (μ 8 0 4))) hG v_8 fg_Reader_21_8 rfl rfl d_Reader_fail_1 ?_
  refine ev_if_ne (tgt := 20) (by decide) d_Reader_fail_4 (fun c => ?_) (fun c => ?_)
  · rw [if_neg c] at h
    have hP := kE _ (Option.some.inj h).symm
    exact ev_return (st := []) rfl d_Reader_fail_20 (by rw [hP]; exact ⟨rfl, hG, rfl⟩)
  · rw [if_pos c] at h
    refine ev_aload_n (k0 := 0) rfl d_Reader_fail_7 ?_
    refine ev_iload_n (k0 := 1) rfl d_Reader_fail_8 ?_
    obtain ⟨μ1, e_μ1, h⟩ := nm_some h
    refine cv_put (.inl (.int x1)) x1 hG okC v_8 fl_Reader_21_8 rfl rfl okv_int d_Reader_fail_9 ?_
    intro G hG; rw [← e_μ1] at hG
    refine ev_aload_n (k0 := 0) rfl d_Reader_fail_12 ?_
    refine ev_aload_n (k0 := 0) rfl d_Reader_fail_13 ?_
    refine cv_get9 (.inl (.int (μ1 8 0 2))) hG v_8 fg_Reader_15_8 rfl rfl d_Reader_fail_14 ?_
    obtain ⟨μ2, e_μ2, h⟩ := nm_some h
    refine cv_put (.inl (.int (μ1 8 0 2))) (μ1 8 0 2) hG okC v_8 fl_Reader_24_8 rfl rfl okv_int d_Reader_fail_17 ?_
    intro G hG; rw [← e_μ2] at hG
    have hP := kE _ (Option.some.inj h).symm
    exact ev_return (st := []) rfl d_Reader_fail_20 (by rw [hP]; exact ⟨rfl, hG, rfl⟩)

/-- ProphecyShop$Reader.takeWord -/
def f_Reader_takeWord (K : Nat) (w1 : Nat) (μ : Mem) : Option (Mem) :=
  ((f_Reader_sees K w1 μ)).bind (fun r1 => if r1 = 0 then (((f_Reader_fail K 1 μ)).bind (fun r2 => some r2)) else (((f_Reader_next K μ)).bind (fun r3 => some r3)))
set_option maxRecDepth 100000 in
set_option maxHeartbeats 4000000 in
theorem w_Reader_takeWord_8 {g : GL} {F G : RG} {nx : Nat} (d : Nat) {w1 : Nat} {μ : Mem} (hw1 : w1 < 28) (hSG : SG g) {o : Mem} (hG : LM vc 0 535 μ F G) (h : f_Reader_takeWord 8 w1 μ = some o) : Mt g (d + 5) m_Reader_takeWord [.inr (0, off 8 0), .inr (1, w1)] (G, nx) 0 0 (pRW vc 0 535 rV o F nx) := by
  unfold f_Reader_takeWord at h
  have kE : ∀ v, o = v → pRW vc 0 535 rV o F nx = pRW vc 0 535 rV v F nx := fun v e => by subst e; rfl
  refine Mt.of9 [some (.inr (0, off 8 0)), some (.inr (1, w1))] (by decide +kernel) rfl rfl rfl rfl ?_
  refine ev_aload_n (k0 := 0) rfl d_Reader_takeWord_0 ?_
  refine ev_aload_n (k0 := 1) rfl d_Reader_takeWord_1 ?_
  obtain ⟨r1, hr1, h⟩ := bind_some9 h
  refine cv_U (d := d + 4) (mc1 := 0) (ms1 := 0) (mc := 0) (ms := 0) [.inr (1, w1)] hG v_8 rfl lk_Reader_68_8 (w_Reader_sees_8 (d + 0) hw1 hSG hG hr1) rfl rfl d_Reader_takeWord_2 (aft_ro ?_)
  refine Ev.at (pc' := 5) rfl (Ev.cong (st' := [.inl (.int r1)]) ?_ rfl rfl)
  refine ev_if_eq (tgt := 15) (by decide) d_Reader_takeWord_5 (fun c => ?_) (fun c => ?_)
  · rw [if_pos c] at h
    refine ev_aload_n (k0 := 0) rfl d_Reader_takeWord_15 ?_
    refine cw_iconst 1 d_Reader_takeWord_16 rfl ?_
    obtain ⟨r2, hr2, h⟩ := bind_some9 h
    refine cv_U (d := d + 4) (mc1 := 0) (ms1 := 0) (mc := 0) (ms := 0) [.inl (.int 1)] hG v_8 rfl lk_Reader_64_8 (w_Reader_fail_8 (d + 4) hG hr2) rfl rfl d_Reader_takeWord_17 (aft_rw (fun G hG => ?_))
    refine Ev.at (pc' := 20) rfl (Ev.cong (st' := []) ?_ rfl rfl)
    have hP := kE _ (Option.some.inj h).symm
    exact ev_return (st := []) rfl d_Reader_takeWord_20 (by rw [hP]; exact ⟨rfl, hG, rfl⟩)
  · rw [if_neg c] at h
    refine ev_aload_n (k0 := 0) rfl d_Reader_takeWord_8 ?_
    obtain ⟨r3, hr3, h⟩ := bind_some9 h
    refine cv_U (d := d + 4) (mc1 := 0) (ms1 := 0) (mc := 0) (ms := 0) [] hG v_8 rfl lk_Reader_31_8 (w_Reader_next_8 (d + 3) hG hr3) rfl rfl d_Reader_takeWord_9 (aft_rw (fun G hG => ?_))
    refine Ev.at (pc' := 12) rfl (Ev.cong (st' := []) ?_ rfl rfl)
    refine ev_goto (tgt := 20) (by decide) d_Reader_takeWord_12 ?_
    have hP := kE _ (Option.some.inj h).symm
    exact ev_return (st := []) rfl d_Reader_takeWord_20 (by rw [hP]; exact ⟨rfl, hG, rfl⟩)

/-- ProphecyShop$Reader.takeNumber -/
def s_Reader_takeNumber_30 (K : Nat) (x1 : Int32) (x2 : Int32) (x3 : Int32) (x4 : Int32) (μ : Mem) : Option ((Int32 × Int32) ⊕ (Int32)) :=
  if (μ K 0 3) ≤ x4 then (some (.inr x3)) else (((f_Text_at x4 μ)).bind (fun r1 => nm (if 1000000 < (((x3 * 10) + r1) - 48) then 1000000 else (((x3 * 10) + r1) - 48) : Int32) (fun v2 => some (.inl ((v2, x4 + 1))))))
def f_Reader_takeNumber (K : Nat) (x1 : Int32) (x2 : Int32) (μ : Mem) : Option (Int32 × Mem) :=
  if (μ K 0 4) = 0 then (if (μ K 0 1) = 2 then (nm (μ K 0 2 : Int32) (fun v2 => (it (fun (s : Int32 × Int32) => s_Reader_takeNumber_30 K x1 x2 s.1 s.2 μ) LIM ((0, v2))).bind (fun q3 => ((f_P_isWithin q3 x1 x2 μ)).bind (fun r4 => if r4 = 0 then (((f_Reader_fail K 2 μ)).bind (fun r6 => some ((x1, r6)))) else (((f_Reader_next K μ)).bind (fun r5 => some ((q3, r5)))))))) else (((f_Reader_fail K 1 μ)).bind (fun r7 => some ((x1, r7))))) else (((f_Reader_fail K 1 μ)).bind (fun r1 => some ((x1, r1))))
set_option maxRecDepth 100000 in
set_option maxHeartbeats 4000000 in
theorem ws_Reader_takeNumber_30_8 {g : GL} {F G : RG} {nx mc ms : Nat} {Post : RO → RM → Prop} (d : Nat) {x1 : Int32} {x2 : Int32} {x3 : Int32} {x4 : Int32} {μ : Mem}   {o : (Int32 × Int32) ⊕ (Int32)} (hG : LM vc 0 535 μ F G) (h : s_Reader_takeNumber_30 8 x1 x2 x3 x4 μ = some o)
    (kC : ∀ s', o = .inl s' → Ev g (d + 2) m_Reader_takeNumber 30 [some (.inr (0, off 8 0)), some (.inl (.int x1)), some (.inl (.int x2)), some (.inl (.int s'.1)), some (.inl (.int s'.2))] [] (G, nx) mc ms Post)
    (kX : ∀ r, o = .inr r → Ev g (d + 2) m_Reader_takeNumber 68 [some (.inr (0, off 8 0)), some (.inl (.int x1)), some (.inl (.int x2)), some (.inl (.int r)), none] [] (G, nx) mc ms Post)
    : Ev g (d + 2) m_Reader_takeNumber 30 [some (.inr (0, off 8 0)), some (.inl (.int x1)), some (.inl (.int x2)), some (.inl (.int x3)), some (.inl (.int x4))] [] (G, nx) mc ms Post := by
  unfold s_Reader_takeNumber_30 at h
  refine ev_iload (i := 4) rfl d_Reader_takeNumber_30 ?_
  refine ev_aload_n (k0 := 0) rfl d_Reader_takeNumber_32 ?_
  refine cv_get9 (.inl (.int (μ 8 0 3))) hG v_8 fg_Reader_18_8 rfl rfl d_Reader_takeNumber_33 ?_
  refine ev_icmp_ge (tgt := 68) (by decide) d_Reader_takeNumber_36 (fun c => ?_) (fun c => ?_)
  · rw [if_pos c] at h
    exact Ev.sub (.s (.s (.s (.s (.n LSb.z))))) (kX _ (Option.some.inj h).symm)
  · rw [if_neg c] at h
    refine ev_iload_n (k0 := 3) rfl d_Reader_takeNumber_39 ?_
    refine cw_bipush 10 d_Reader_takeNumber_40 rfl ?_
    refine ev_imul d_Reader_takeNumber_42 ?_
    refine ev_aload_n (k0 := 0) rfl d_Reader_takeNumber_43 ?_
    refine cv_get9 (.inr (0, off 11 0)) hG v_8 fg_Reader_27_8 rfl rfl d_Reader_takeNumber_44 ?_
    refine ev_iload (i := 4) rfl d_Reader_takeNumber_47 ?_
    obtain ⟨r1, hr1, h⟩ := bind_some9 h
    refine Ev.z9 ?_
    refine cv_V (d := d + 1) (mc1 := 0) (ms1 := 0) (mc := mc) (ms := ms) [.inl (.int x4)] hG v_11 rfl lk_Reader_40 (w_Text_at (d + 1) hG hr1) rfl rfl d_Reader_takeNumber_49 (aft_ro ?_)
    refine Ev.at (pc' := 52) rfl (Ev.cong (st' := [.inl (.int r1), .inl (.int (x3 * 10))]) ?_ rfl rfl)
    refine ev_iadd d_Reader_takeNumber_52 ?_
    refine cw_bipush 48 d_Reader_takeNumber_53 rfl ?_
    refine ev_isub d_Reader_takeNumber_55 ?_
    refine ev_ldc (v := 1000000) wg_517 d_Reader_takeNumber_56 ?_
    refine ev_mmin (Nat.le_of_ble_eq_true rfl) ⟨wg_518, wg_519, wg_17, wg_520⟩ d_Reader_takeNumber_58 ?_
    obtain ⟨v2, e_v2, h⟩ := nm_some h
    refine cw_istoreN_n 3 v2 e_v2 [some (.inr (0, off 8 0)), some (.inl (.int x1)), some (.inl (.int x2)), some (.inl (.int v2)), some (.inl (.int x4))] d_Reader_takeNumber_61 rfl rfl rfl ?_
    refine cw_iincN 4 1 [some (.inr (0, off 8 0)), some (.inl (.int x1)), some (.inl (.int x2)), some (.inl (.int v2)), some (.inl (.int (x4 + 1)))] d_Reader_takeNumber_62 rfl rfl rfl rfl rfl ?_
    refine ev_goto (tgt := 30) (by decide) d_Reader_takeNumber_65 ?_
    exact kC _ (Option.some.inj h).symm
set_option maxRecDepth 100000 in
set_option maxHeartbeats 4000000 in
theorem w_Reader_takeNumber_8 {g : GL} {F G : RG} {nx : Nat} (d : Nat) {x1 : Int32} {x2 : Int32} {μ : Mem}   {o : Int32 × Mem} (hG : LM vc 0 535 μ F G) (h : f_Reader_takeNumber 8 x1 x2 μ = some o) : Mt g (d + 2) m_Reader_takeNumber [.inr (0, off 8 0), .inl (.int x1), .inl (.int x2)] (G, nx) 0 0 (pRW vc 0 535 (rI o.1) o.2 F nx) := by
  unfold f_Reader_takeNumber at h
  have kE : ∀ v, o = v → pRW vc 0 535 (rI o.1) o.2 F nx = pRW vc 0 535 (rI v.1) v.2 F nx := fun v e => by subst e; rfl
  refine Mt.of9 [some (.inr (0, off 8 0)), some (.inl (.int x1)), some (.inl (.int x2)), none, none] (by decide +kernel) rfl rfl rfl rfl ?_
  refine cw_iconst 0 d_Reader_takeNumber_0 rfl ?_
  refine cw_istoreN_n 3 0 rfl [some (.inr (0, off 8 0)), some (.inl (.int x1)), some (.inl (.int x2)), some (.inl (.int 0)), none] d_Reader_takeNumber_1 rfl rfl rfl ?_
  refine ev_aload_n (k0 := 0) rfl d_Reader_takeNumber_2 ?_
  refine cv_get9 (.inl (.int (μ 8 0 4))) hG v_8 fg_Reader_21_8 rfl rfl d_Reader_takeNumber_3 ?_
  refine ev_if_ne (tgt := 17) (by decide) d_Reader_takeNumber_6 (fun c => ?_) (fun c => ?_)
  · rw [if_neg c] at h
    refine ev_aload_n (k0 := 0) rfl d_Reader_takeNumber_17 ?_
    refine cw_iconst 1 d_Reader_takeNumber_18 rfl ?_
    obtain ⟨r1, hr1, h⟩ := bind_some9 h
    refine cv_U (d := d + 1) (mc1 := 0) (ms1 := 0) (mc := 0) (ms := 0) [.inl (.int 1)] hG v_8 rfl lk_Reader_64_8 (w_Reader_fail_8 (d + 1) hG hr1) rfl rfl d_Reader_takeNumber_19 (aft_rw (fun G hG => ?_))
    refine Ev.at (pc' := 22) rfl (Ev.cong (st' := []) ?_ rfl rfl)
    refine ev_iload_n (k0 := 1) rfl d_Reader_takeNumber_22 ?_
    have hP := kE _ (Option.some.inj h).symm
    exact ev_ireturn (st := []) rfl rfl d_Reader_takeNumber_23 (by rw [hP]; exact ⟨rfl, hG, rfl⟩)
  · rw [if_pos c] at h
    refine ev_aload_n (k0 := 0) rfl d_Reader_takeNumber_9 ?_
    refine cv_get9 (.inl (.int (μ 8 0 1))) hG v_8 fg_Reader_11_8 rfl rfl d_Reader_takeNumber_10 ?_
    refine cw_iconst 2 d_Reader_takeNumber_13 rfl ?_
    refine ev_icmp_eq (tgt := 24) (by decide) d_Reader_takeNumber_14 (fun c => ?_) (fun c => ?_)
    · rw [if_pos c] at h
      refine ev_aload_n (k0 := 0) rfl d_Reader_takeNumber_24 ?_
      refine cv_get9 (.inl (.int (μ 8 0 2))) hG v_8 fg_Reader_15_8 rfl rfl d_Reader_takeNumber_25 ?_
      obtain ⟨v2, e_v2, h⟩ := nm_some h
      refine cw_istoreN 4 v2 e_v2 [some (.inr (0, off 8 0)), some (.inl (.int x1)), some (.inl (.int x2)), some (.inl (.int 0)), some (.inl (.int v2))] d_Reader_takeNumber_28 rfl rfl rfl ?_
      obtain ⟨q3, hl, h⟩ := bind_some9 h
      refine it_ev (W := fun (s : Int32 × Int32) => Ev g (d + 2) m_Reader_takeNumber 30 [some (.inr (0, off 8 0)), some (.inl (.int x1)), some (.inl (.int x2)), some (.inl (.int s.1)), some (.inl (.int s.2))] [] (G, nx) 0 0 (pRW vc 0 535 (rI o.1) o.2 F nx)) (X := fun z => z = q3) rfl (fun s9 o9 hs kC9 kX9 => ?_) LIM _ hl
      refine ws_Reader_takeNumber_30_8 d  hG hs kC9 (fun r_ e => ?_)
      · obtain rfl := (kX9 _ e).symm
        refine ev_iload_n (k0 := 3) rfl d_Reader_takeNumber_68 ?_
        refine ev_iload_n (k0 := 1) rfl d_Reader_takeNumber_69 ?_
        refine ev_iload_n (k0 := 2) rfl d_Reader_takeNumber_70 ?_
        obtain ⟨r4, hr4, h⟩ := bind_some9 h
        refine cw_SN (d := d + 1) (mc1 := 0) (ms1 := 0) (mc := 0) (ms := 0) [.inl (.int q3), .inl (.int x1), .inl (.int x2)] lk_Reader_79 (w_P_isWithin (d + 1) hG hr4) rfl rfl d_Reader_takeNumber_71 (aft_ro ?_)
        refine Ev.at (pc' := 74) rfl (Ev.cong (st' := [.inl (.int r4)]) ?_ rfl rfl)
        refine ev_if_ne (tgt := 84) (by decide) d_Reader_takeNumber_74 (fun c => ?_) (fun c => ?_)
        · rw [if_neg c] at h
          refine ev_aload_n (k0 := 0) rfl d_Reader_takeNumber_84 ?_
          obtain ⟨r5, hr5, h⟩ := bind_some9 h
          refine cv_U (d := d + 1) (mc1 := 0) (ms1 := 0) (mc := 0) (ms := 0) [] hG v_8 rfl lk_Reader_31_8 (w_Reader_next_8 (d + 0) hG hr5) rfl rfl d_Reader_takeNumber_85 (aft_rw (fun G hG => ?_))
          refine Ev.at (pc' := 88) rfl (Ev.cong (st' := []) ?_ rfl rfl)
          refine ev_iload_n (k0 := 3) rfl d_Reader_takeNumber_88 ?_
          have hP := kE _ (Option.some.inj h).symm
          exact ev_ireturn (st := []) rfl rfl d_Reader_takeNumber_89 (by rw [hP]; exact ⟨rfl, hG, rfl⟩)
        · rw [if_pos c] at h
          refine ev_aload_n (k0 := 0) rfl d_Reader_takeNumber_77 ?_
          refine cw_iconst 2 d_Reader_takeNumber_78 rfl ?_
          obtain ⟨r6, hr6, h⟩ := bind_some9 h
          refine cv_U (d := d + 1) (mc1 := 0) (ms1 := 0) (mc := 0) (ms := 0) [.inl (.int 2)] hG v_8 rfl lk_Reader_64_8 (w_Reader_fail_8 (d + 1) hG hr6) rfl rfl d_Reader_takeNumber_79 (aft_rw (fun G hG => ?_))
          refine Ev.at (pc' := 82) rfl (Ev.cong (st' := []) ?_ rfl rfl)
          refine ev_iload_n (k0 := 1) rfl d_Reader_takeNumber_82 ?_
          have hP := kE _ (Option.some.inj h).symm
          exact ev_ireturn (st := []) rfl rfl d_Reader_takeNumber_83 (by rw [hP]; exact ⟨rfl, hG, rfl⟩)
    · rw [if_neg c] at h
      refine ev_aload_n (k0 := 0) rfl d_Reader_takeNumber_17 ?_
      refine cw_iconst 1 d_Reader_takeNumber_18 rfl ?_
      obtain ⟨r7, hr7, h⟩ := bind_some9 h
      refine cv_U (d := d + 1) (mc1 := 0) (ms1 := 0) (mc := 0) (ms := 0) [.inl (.int 1)] hG v_8 rfl lk_Reader_64_8 (w_Reader_fail_8 (d + 1) hG hr7) rfl rfl d_Reader_takeNumber_19 (aft_rw (fun G hG => ?_))
      refine Ev.at (pc' := 22) rfl (Ev.cong (st' := []) ?_ rfl rfl)
      refine ev_iload_n (k0 := 1) rfl d_Reader_takeNumber_22 ?_
      have hP := kE _ (Option.some.inj h).symm
      exact ev_ireturn (st := []) rfl rfl d_Reader_takeNumber_23 (by rw [hP]; exact ⟨rfl, hG, rfl⟩)

/-- ProphecyShop$Reader.seesSign -/
def f_Reader_seesSign (K : Nat) (x1 : Int32) (μ : Mem) : Option (Int32) :=
  if (μ K 0 4) = 0 then (if (μ K 0 1) = x1 then some 1 else (some 0)) else (some 0)
set_option maxRecDepth 100000 in
set_option maxHeartbeats 4000000 in
theorem w_Reader_seesSign_8 {g : GL} {F G : RG} {nx : Nat} (d : Nat) {x1 : Int32} {μ : Mem}   {o : Int32} (hG : LM vc 0 535 μ F G) (h : f_Reader_seesSign 8 x1 μ = some o) : Mt g (d + 0) m_Reader_seesSign [.inr (0, off 8 0), .inl (.int x1)] (G, nx) 0 0 (pRO (rI o) (G, nx)) := by
  unfold f_Reader_seesSign at h
  have kE : ∀ v, o = v → pRO (rI o) (G, nx) = pRO (rI v) (G, nx) := fun v e => by subst e; rfl
  refine Mt.of9 [some (.inr (0, off 8 0)), some (.inl (.int x1))] (by decide +kernel) rfl rfl rfl rfl ?_
  refine ev_aload_n (k0 := 0) rfl d_Reader_seesSign_0 ?_
  refine cv_get9 (.inl (.int (μ 8 0 4))) hG v_8 fg_Reader_21_8 rfl rfl d_Reader_seesSign_1 ?_
  refine ev_if_ne (tgt := 19) (by decide) d_Reader_seesSign_4 (fun c => ?_) (fun c => ?_)
  · rw [if_neg c] at h
    refine cw_iconst 0 d_Reader_seesSign_19 rfl ?_
    have hP := kE _ (Option.some.inj h).symm
    exact ev_ireturn (st := []) rfl rfl d_Reader_seesSign_20 (by rw [hP]; exact ⟨rfl, rfl⟩)
  · rw [if_pos c] at h
    refine ev_aload_n (k0 := 0) rfl d_Reader_seesSign_7 ?_
    refine cv_get9 (.inl (.int (μ 8 0 1))) hG v_8 fg_Reader_11_8 rfl rfl d_Reader_seesSign_8 ?_
    refine ev_iload_n (k0 := 1) rfl d_Reader_seesSign_11 ?_
    refine ev_icmp_ne (tgt := 19) (by decide) d_Reader_seesSign_12 (fun c => ?_) (fun c => ?_)
    · rw [if_neg c] at h
      refine cw_iconst 0 d_Reader_seesSign_19 rfl ?_
      have hP := kE _ (Option.some.inj h).symm
      exact ev_ireturn (st := []) rfl rfl d_Reader_seesSign_20 (by rw [hP]; exact ⟨rfl, rfl⟩)
    · rw [if_pos c] at h
      refine cw_iconst 1 d_Reader_seesSign_15 rfl ?_
      refine ev_goto (tgt := 20) (by decide) d_Reader_seesSign_16 ?_
      have hP := kE _ (Option.some.inj h).symm
      exact ev_ireturn (st := []) rfl rfl d_Reader_seesSign_20 (by rw [hP]; exact ⟨rfl, rfl⟩)

/-- ProphecyShop$Reader.takeSign -/
def f_Reader_takeSign (K : Nat) (x1 : Int32) (μ : Mem) : Option (Mem) :=
  ((f_Reader_seesSign K x1 μ)).bind (fun r1 => if r1 = 0 then (((f_Reader_fail K 1 μ)).bind (fun r2 => some r2)) else (((f_Reader_next K μ)).bind (fun r3 => some r3)))
set_option maxRecDepth 100000 in
set_option maxHeartbeats 4000000 in
theorem w_Reader_takeSign_8 {g : GL} {F G : RG} {nx : Nat} (d : Nat) {x1 : Int32} {μ : Mem}   {o : Mem} (hG : LM vc 0 535 μ F G) (h : f_Reader_takeSign 8 x1 μ = some o) : Mt g (d + 2) m_Reader_takeSign [.inr (0, off 8 0), .inl (.int x1)] (G, nx) 0 0 (pRW vc 0 535 rV o F nx) := by
  unfold f_Reader_takeSign at h
  have kE : ∀ v, o = v → pRW vc 0 535 rV o F nx = pRW vc 0 535 rV v F nx := fun v e => by subst e; rfl
  refine Mt.of9 [some (.inr (0, off 8 0)), some (.inl (.int x1))] (by decide +kernel) rfl rfl rfl rfl ?_
  refine ev_aload_n (k0 := 0) rfl d_Reader_takeSign_0 ?_
  refine ev_iload_n (k0 := 1) rfl d_Reader_takeSign_1 ?_
  obtain ⟨r1, hr1, h⟩ := bind_some9 h
  refine cv_U (d := d + 1) (mc1 := 0) (ms1 := 0) (mc := 0) (ms := 0) [.inl (.int x1)] hG v_8 rfl lk_Reader_60_8 (w_Reader_seesSign_8 (d + 1) hG hr1) rfl rfl d_Reader_takeSign_2 (aft_ro ?_)
  refine Ev.at (pc' := 5) rfl (Ev.cong (st' := [.inl (.int r1)]) ?_ rfl rfl)
  refine ev_if_eq (tgt := 15) (by decide) d_Reader_takeSign_5 (fun c => ?_) (fun c => ?_)
  · rw [if_pos c] at h
    refine ev_aload_n (k0 := 0) rfl d_Reader_takeSign_15 ?_
    refine cw_iconst 1 d_Reader_takeSign_16 rfl ?_
    obtain ⟨r2, hr2, h⟩ := bind_some9 h
    refine cv_U (d := d + 1) (mc1 := 0) (ms1 := 0) (mc := 0) (ms := 0) [.inl (.int 1)] hG v_8 rfl lk_Reader_64_8 (w_Reader_fail_8 (d + 1) hG hr2) rfl rfl d_Reader_takeSign_17 (aft_rw (fun G hG => ?_))
    refine Ev.at (pc' := 20) rfl (Ev.cong (st' := []) ?_ rfl rfl)
    have hP := kE _ (Option.some.inj h).symm
    exact ev_return (st := []) rfl d_Reader_takeSign_20 (by rw [hP]; exact ⟨rfl, hG, rfl⟩)
  · rw [if_neg c] at h
    refine ev_aload_n (k0 := 0) rfl d_Reader_takeSign_8 ?_
    obtain ⟨r3, hr3, h⟩ := bind_some9 h
    refine cv_U (d := d + 1) (mc1 := 0) (ms1 := 0) (mc := 0) (ms := 0) [] hG v_8 rfl lk_Reader_31_8 (w_Reader_next_8 (d + 0) hG hr3) rfl rfl d_Reader_takeSign_9 (aft_rw (fun G hG => ?_))
    refine Ev.at (pc' := 12) rfl (Ev.cong (st' := []) ?_ rfl rfl)
    refine ev_goto (tgt := 20) (by decide) d_Reader_takeSign_12 ?_
    have hP := kE _ (Option.some.inj h).symm
    exact ev_return (st := []) rfl d_Reader_takeSign_20 (by rw [hP]; exact ⟨rfl, hG, rfl⟩)

/-- ProphecyShop$SetupReader.readShop -/
def f_SetupReader_readShop (j1 : Nat) (μ : Mem) : Option (Mem) :=
  ((f_Reader_takeWord 8 2 μ)).bind (fun r1 => ((f_Reader_takeNumber 8 0 99999 r1)).bind (fun r2 => nm (st3 r2.2 7 j1 0 r2.1) (fun μ3 => ((f_Reader_takeNumber 8 1 9 μ3)).bind (fun r4 => nm (st3 r4.2 7 j1 1 r4.1) (fun μ5 => ((f_Reader_takeNumber 8 0 99 μ5)).bind (fun r6 => nm (st3 r6.2 7 j1 2 r6.1) (fun μ7 => ((f_Reader_takeNumber 8 0 200 μ7)).bind (fun r8 => nm (st3 r8.2 7 j1 3 r8.1) (fun μ9 => ((f_Reader_takeNumber 8 0 200 μ9)).bind (fun r10 => nm (st3 r10.2 7 j1 4 r10.1) (fun μ11 => ((f_Reader_takeSign 8 59 μ11)).bind (fun r12 => some r12))))))))))))
set_option maxRecDepth 100000 in
set_option maxHeartbeats 4000000 in
theorem w_SetupReader_readShop {g : GL} {F G : RG} {nx : Nat} (d : Nat) {j1 : Nat} {μ : Mem} (hv1 : vc 7 j1) (hSG : SG g) {o : Mem} (hG : LM vc 0 535 μ F G) (h : f_SetupReader_readShop j1 μ = some o) : Mt g (d + 6) m_SetupReader_readShop [.inr (0, off 8 0), .inr (0, off 7 j1)] (G, nx) 0 0 (pRW vc 0 535 rV o F nx) := by
  unfold f_SetupReader_readShop at h
  have kE : ∀ v, o = v → pRW vc 0 535 rV o F nx = pRW vc 0 535 rV v F nx := fun v e => by subst e; rfl
  refine Mt.of9 [some (.inr (0, off 8 0)), some (.inr (0, off 7 j1))] (by decide +kernel) rfl rfl rfl rfl ?_
  refine ev_aload_n (k0 := 0) rfl d_SetupReader_readShop_0 ?_
  refine ev_ldcS st_2 d_SetupReader_readShop_1 ?_
  obtain ⟨r1, hr1, h⟩ := bind_some9 h
  refine cv_U (d := d + 5) (mc1 := 0) (ms1 := 0) (mc := 0) (ms := 0) [.inr (1, 2)] hG v_8 rfl lk_SetupReader_59_8 (w_Reader_takeWord_8 (d + 0) (by decide) hSG hG hr1) rfl rfl d_SetupReader_readShop_3 (aft_rw (fun G hG => ?_))
  refine Ev.at (pc' := 6) rfl (Ev.cong (st' := []) ?_ rfl rfl)
  refine ev_aload_n (k0 := 1) rfl d_SetupReader_readShop_6 ?_
  refine ev_aload_n (k0 := 0) rfl d_SetupReader_readShop_7 ?_
  refine cw_iconst 0 d_SetupReader_readShop_8 rfl ?_
  refine ev_ldc (v := 99999) wg_510 d_SetupReader_readShop_9 ?_
  obtain ⟨r2, hr2, h⟩ := bind_some9 h
  refine cv_U (d := d + 5) (mc1 := 0) (ms1 := 0) (mc := 0) (ms := 0) [.inl (.int 0), .inl (.int 99999)] hG v_8 rfl lk_SetupReader_64_8 (w_Reader_takeNumber_8 (d + 3) hG hr2) rfl rfl d_SetupReader_readShop_11 (aft_rw (fun G hG => ?_))
  refine Ev.at (pc' := 14) rfl (Ev.cong (st' := [.inl (.int r2.1), .inr (0, off 7 j1)]) ?_ rfl rfl)
  obtain ⟨μ3, e_μ3, h⟩ := nm_some h
  refine cv_put (.inl (.int r2.1)) r2.1 hG okC hv1 fl_SetupReader_68_7 rfl rfl okv_int d_SetupReader_readShop_14 ?_
  intro G hG; rw [← e_μ3] at hG
  refine ev_aload_n (k0 := 1) rfl d_SetupReader_readShop_17 ?_
  refine ev_aload_n (k0 := 0) rfl d_SetupReader_readShop_18 ?_
  refine cw_iconst 1 d_SetupReader_readShop_19 rfl ?_
  refine cw_bipush 9 d_SetupReader_readShop_20 rfl ?_
  obtain ⟨r4, hr4, h⟩ := bind_some9 h
  refine cv_U (d := d + 5) (mc1 := 0) (ms1 := 0) (mc := 0) (ms := 0) [.inl (.int 1), .inl (.int 9)] hG v_8 rfl lk_SetupReader_64_8 (w_Reader_takeNumber_8 (d + 3) hG hr4) rfl rfl d_SetupReader_readShop_22 (aft_rw (fun G hG => ?_))
  refine Ev.at (pc' := 25) rfl (Ev.cong (st' := [.inl (.int r4.1), .inr (0, off 7 j1)]) ?_ rfl rfl)
  obtain ⟨μ5, e_μ5, h⟩ := nm_some h
  refine cv_put (.inl (.int r4.1)) r4.1 hG okC hv1 fl_SetupReader_71_7 rfl rfl okv_int d_SetupReader_readShop_25 ?_
  intro G hG; rw [← e_μ5] at hG
  refine ev_aload_n (k0 := 1) rfl d_SetupReader_readShop_28 ?_
  refine ev_aload_n (k0 := 0) rfl d_SetupReader_readShop_29 ?_
  refine cw_iconst 0 d_SetupReader_readShop_30 rfl ?_
  refine cw_bipush 99 d_SetupReader_readShop_31 rfl ?_
  obtain ⟨r6, hr6, h⟩ := bind_some9 h
  refine cv_U (d := d + 5) (mc1 := 0) (ms1 := 0) (mc := 0) (ms := 0) [.inl (.int 0), .inl (.int 99)] hG v_8 rfl lk_SetupReader_64_8 (w_Reader_takeNumber_8 (d + 3) hG hr6) rfl rfl d_SetupReader_readShop_33 (aft_rw (fun G hG => ?_))
  refine Ev.at (pc' := 36) rfl (Ev.cong (st' := [.inl (.int r6.1), .inr (0, off 7 j1)]) ?_ rfl rfl)
  obtain ⟨μ7, e_μ7, h⟩ := nm_some h
  refine cv_put (.inl (.int r6.1)) r6.1 hG okC hv1 fl_SetupReader_74_7 rfl rfl okv_int d_SetupReader_readShop_36 ?_
  intro G hG; rw [← e_μ7] at hG
  refine ev_aload_n (k0 := 1) rfl d_SetupReader_readShop_39 ?_
  refine ev_aload_n (k0 := 0) rfl d_SetupReader_readShop_40 ?_
  refine cw_iconst 0 d_SetupReader_readShop_41 rfl ?_
  refine cw_sipush 200 d_SetupReader_readShop_42 rfl ?_
  obtain ⟨r8, hr8, h⟩ := bind_some9 h
  refine cv_U (d := d + 5) (mc1 := 0) (ms1 := 0) (mc := 0) (ms := 0) [.inl (.int 0), .inl (.int 200)] hG v_8 rfl lk_SetupReader_64_8 (w_Reader_takeNumber_8 (d + 3) hG hr8) rfl rfl d_SetupReader_readShop_45 (aft_rw (fun G hG => ?_))
  refine Ev.at (pc' := 48) rfl (Ev.cong (st' := [.inl (.int r8.1), .inr (0, off 7 j1)]) ?_ rfl rfl)
  obtain ⟨μ9, e_μ9, h⟩ := nm_some h
  refine cv_put (.inl (.int r8.1)) r8.1 hG okC hv1 fl_SetupReader_77_7 rfl rfl okv_int d_SetupReader_readShop_48 ?_
  intro G hG; rw [← e_μ9] at hG
  refine ev_aload_n (k0 := 1) rfl d_SetupReader_readShop_51 ?_
  refine ev_aload_n (k0 := 0) rfl d_SetupReader_readShop_52 ?_
  refine cw_iconst 0 d_SetupReader_readShop_53 rfl ?_
  refine cw_sipush 200 d_SetupReader_readShop_54 rfl ?_
  obtain ⟨r10, hr10, h⟩ := bind_some9 h
  refine cv_U (d := d + 5) (mc1 := 0) (ms1 := 0) (mc := 0) (ms := 0) [.inl (.int 0), .inl (.int 200)] hG v_8 rfl lk_SetupReader_64_8 (w_Reader_takeNumber_8 (d + 3) hG hr10) rfl rfl d_SetupReader_readShop_57 (aft_rw (fun G hG => ?_))
  refine Ev.at (pc' := 60) rfl (Ev.cong (st' := [.inl (.int r10.1), .inr (0, off 7 j1)]) ?_ rfl rfl)
  obtain ⟨μ11, e_μ11, h⟩ := nm_some h
  refine cv_put (.inl (.int r10.1)) r10.1 hG okC hv1 fl_SetupReader_80_7 rfl rfl okv_int d_SetupReader_readShop_60 ?_
  intro G hG; rw [← e_μ11] at hG
  refine ev_aload_n (k0 := 0) rfl d_SetupReader_readShop_63 ?_
  refine cw_bipush 59 d_SetupReader_readShop_64 rfl ?_
  obtain ⟨r12, hr12, h⟩ := bind_some9 h
  refine cv_U (d := d + 5) (mc1 := 0) (ms1 := 0) (mc := 0) (ms := 0) [.inl (.int 59)] hG v_8 rfl lk_SetupReader_83_8 (w_Reader_takeSign_8 (d + 3) hG hr12) rfl rfl d_SetupReader_readShop_66 (aft_rw (fun G hG => ?_))
  refine Ev.at (pc' := 69) rfl (Ev.cong (st' := []) ?_ rfl rfl)
  have hP := kE _ (Option.some.inj h).symm
  exact ev_return (st := []) rfl d_SetupReader_readShop_69 (by rw [hP]; exact ⟨rfl, hG, rfl⟩)

/-- ProphecyShop$Reader.takeCounted -/
def f_Reader_takeCounted (K : Nat) (w1 : Nat) (x2 : Int32) (x3 : Int32) (μ : Mem) : Option (Mem) :=
  ((f_Reader_sees K w1 μ)).bind (fun r1 => if r1 = 0 then (((f_Reader_fail K 1 μ)).bind (fun r4 => some r4)) else (if x2 < x3 then (((f_Reader_next K μ)).bind (fun r2 => some r2)) else (((f_Reader_fail K 4 μ)).bind (fun r3 => some r3))))
set_option maxRecDepth 100000 in
set_option maxHeartbeats 4000000 in
theorem w_Reader_takeCounted_8 {g : GL} {F G : RG} {nx : Nat} (d : Nat) {w1 : Nat} {x2 : Int32} {x3 : Int32} {μ : Mem} (hw1 : w1 < 28) (hSG : SG g) {o : Mem} (hG : LM vc 0 535 μ F G) (h : f_Reader_takeCounted 8 w1 x2 x3 μ = some o) : Mt g (d + 5) m_Reader_takeCounted [.inr (0, off 8 0), .inr (1, w1), .inl (.int x2), .inl (.int x3)] (G, nx) 0 0 (pRW vc 0 535 rV o F nx) := by
  unfold f_Reader_takeCounted at h
  have kE : ∀ v, o = v → pRW vc 0 535 rV o F nx = pRW vc 0 535 rV v F nx := fun v e => by subst e; rfl
  refine Mt.of9 [some (.inr (0, off 8 0)), some (.inr (1, w1)), some (.inl (.int x2)), some (.inl (.int x3))] (by decide +kernel) rfl rfl rfl rfl ?_
  refine ev_aload_n (k0 := 0) rfl d_Reader_takeCounted_0 ?_
  refine ev_aload_n (k0 := 1) rfl d_Reader_takeCounted_1 ?_
  obtain ⟨r1, hr1, h⟩ := bind_some9 h
  refine cv_U (d := d + 4) (mc1 := 0) (ms1 := 0) (mc := 0) (ms := 0) [.inr (1, w1)] hG v_8 rfl lk_Reader_68_8 (w_Reader_sees_8 (d + 0) hw1 hSG hG hr1) rfl rfl d_Reader_takeCounted_2 (aft_ro ?_)
  refine Ev.at (pc' := 5) rfl (Ev.cong (st' := [.inl (.int r1)]) ?_ rfl rfl)
  refine ev_if_ne (tgt := 16) (by decide) d_Reader_takeCounted_5 (fun c => ?_) (fun c => ?_)
  · rw [if_neg c] at h
    refine ev_iload_n (k0 := 2) rfl d_Reader_takeCounted_16 ?_
    refine ev_iload_n (k0 := 3) rfl d_Reader_takeCounted_17 ?_
    refine ev_icmp_lt (tgt := 29) (by decide) d_Reader_takeCounted_18 (fun c => ?_) (fun c => ?_)
    · rw [if_pos c] at h
      refine ev_aload_n (k0 := 0) rfl d_Reader_takeCounted_29 ?_
      obtain ⟨r2, hr2, h⟩ := bind_some9 h
      refine cv_U (d := d + 4) (mc1 := 0) (ms1 := 0) (mc := 0) (ms := 0) [] hG v_8 rfl lk_Reader_31_8 (w_Reader_next_8 (d + 3) hG hr2) rfl rfl d_Reader_takeCounted_30 (aft_rw (fun G hG => ?_))
      refine Ev.at (pc' := 33) rfl (Ev.cong (st' := []) ?_ rfl rfl)
      have hP := kE _ (Option.some.inj h).symm
      exact ev_return (st := []) rfl d_Reader_takeCounted_33 (by rw [hP]; exact ⟨rfl, hG, rfl⟩)
    · rw [if_neg c] at h
      refine ev_aload_n (k0 := 0) rfl d_Reader_takeCounted_21 ?_
      refine cw_iconst 4 d_Reader_takeCounted_22 rfl ?_
      obtain ⟨r3, hr3, h⟩ := bind_some9 h
      refine cv_U (d := d + 4) (mc1 := 0) (ms1 := 0) (mc := 0) (ms := 0) [.inl (.int 4)] hG v_8 rfl lk_Reader_64_8 (w_Reader_fail_8 (d + 4) hG hr3) rfl rfl d_Reader_takeCounted_23 (aft_rw (fun G hG => ?_))
      refine Ev.at (pc' := 26) rfl (Ev.cong (st' := []) ?_ rfl rfl)
      refine ev_goto (tgt := 33) (by decide) d_Reader_takeCounted_26 ?_
      have hP := kE _ (Option.some.inj h).symm
      exact ev_return (st := []) rfl d_Reader_takeCounted_33 (by rw [hP]; exact ⟨rfl, hG, rfl⟩)
  · rw [if_pos c] at h
    refine ev_aload_n (k0 := 0) rfl d_Reader_takeCounted_8 ?_
    refine cw_iconst 1 d_Reader_takeCounted_9 rfl ?_
    obtain ⟨r4, hr4, h⟩ := bind_some9 h
    refine cv_U (d := d + 4) (mc1 := 0) (ms1 := 0) (mc := 0) (ms := 0) [.inl (.int 1)] hG v_8 rfl lk_Reader_64_8 (w_Reader_fail_8 (d + 4) hG hr4) rfl rfl d_Reader_takeCounted_10 (aft_rw (fun G hG => ?_))
    refine Ev.at (pc' := 13) rfl (Ev.cong (st' := []) ?_ rfl rfl)
    refine ev_goto (tgt := 33) (by decide) d_Reader_takeCounted_13 ?_
    have hP := kE _ (Option.some.inj h).symm
    exact ev_return (st := []) rfl d_Reader_takeCounted_33 (by rw [hP]; exact ⟨rfl, hG, rfl⟩)

/-- ProphecyShop$Names.codeOf -/
def s_Names_codeOf_22 (x2 : Int32) (x3 : Int32) (x4 : Int32) (μ : Mem) : Option ((Int32 × Int32) ⊕ ((Int32) ⊕ (Int32))) :=
  if x2 ≤ x4 then (some (.inr (.inl x3))) else (((f_Text_at x4 μ)).bind (fun r1 => if r1 < 97 then (some (.inr (.inr 0))) else (if r1 ≤ 122 then (nm ((x3 <<< (5 &&& 31)) ||| ((r1 - 97) + 1) : Int32) (fun v2 => some (.inl ((v2, x4 + 1))))) else (some (.inr (.inr 0))))))
def f_Names_codeOf (x1 : Int32) (x2 : Int32) (μ : Mem) : Option (Int32) :=
  if (x2 - x1) < 1 then some 0 else (if (x2 - x1) ≤ 6 then ((it (fun (s : Int32 × Int32) => s_Names_codeOf_22 x2 s.1 s.2 μ) LIM ((0, x1))).bind (fun q1 => els q1 (fun r2 => some r2) (fun v => some v))) else (some 0))
set_option maxRecDepth 100000 in
set_option maxHeartbeats 4000000 in
theorem ws_Names_codeOf_22 {g : GL} {F G : RG} {nx mc ms : Nat} {Post : RO → RM → Prop} (d : Nat) {x2 : Int32} {x3 : Int32} {x4 : Int32} {μ : Mem}   {o : (Int32 × Int32) ⊕ ((Int32) ⊕ (Int32))} (hG : LM vc 0 535 μ F G) (h : s_Names_codeOf_22 x2 x3 x4 μ = some o)
    (kC : ∀ s', o = .inl s' → Ev g (d + 1) m_Names_codeOf 22 [some (.inr (0, off 11 0)), none, some (.inl (.int x2)), some (.inl (.int s'.1)), some (.inl (.int s'.2)), none] [] (G, nx) mc ms Post)
    (kX : ∀ r, o = .inr (.inl r) → Ev g (d + 1) m_Names_codeOf 70 [none, none, none, some (.inl (.int r)), none, none] [] (G, nx) mc ms Post)
    (kE : ∀ v, o = .inr (.inr v) → Post = pRO (rI v) (G, nx)) : Ev g (d + 1) m_Names_codeOf 22 [some (.inr (0, off 11 0)), none, some (.inl (.int x2)), some (.inl (.int x3)), some (.inl (.int x4)), none] [] (G, nx) mc ms Post := by
  unfold s_Names_codeOf_22 at h
  refine ev_iload (i := 4) rfl d_Names_codeOf_22 ?_
  refine ev_iload_n (k0 := 2) rfl d_Names_codeOf_24 ?_
  refine ev_icmp_ge (tgt := 70) (by decide) d_Names_codeOf_25 (fun c => ?_) (fun c => ?_)
  · rw [if_pos c] at h
    exact Ev.sub (.n (.n (.n (.s (.n (.n LSb.z)))))) (kX _ (Option.some.inj h).symm)
  · rw [if_neg c] at h
    refine ev_aload_n (k0 := 0) rfl d_Names_codeOf_28 ?_
    refine ev_iload (i := 4) rfl d_Names_codeOf_29 ?_
    obtain ⟨r1, hr1, h⟩ := bind_some9 h
    refine Ev.z9 ?_
    refine cv_V (d := d + 0) (mc1 := 0) (ms1 := 0) (mc := mc) (ms := ms) [.inl (.int x4)] hG v_11 rfl lk_Names_19 (w_Text_at (d + 0) hG hr1) rfl rfl d_Names_codeOf_31 (aft_ro ?_)
    refine Ev.at (pc' := 34) rfl (Ev.cong (st' := [.inl (.int r1)]) ?_ rfl rfl)
    refine cw_istoreN 5 r1 rfl [some (.inr (0, off 11 0)), none, some (.inl (.int x2)), some (.inl (.int x3)), some (.inl (.int x4)), some (.inl (.int r1))] d_Names_codeOf_34 rfl rfl rfl ?_
    refine ev_iload (i := 5) rfl d_Names_codeOf_36 ?_
    refine cw_bipush 97 d_Names_codeOf_38 rfl ?_
    refine ev_icmp_lt (tgt := 50) (by decide) d_Names_codeOf_40 (fun c => ?_) (fun c => ?_)
    · rw [if_pos c] at h
      refine cw_iconst 0 d_Names_codeOf_50 rfl ?_
      have hP := kE _ (Option.some.inj h).symm
      exact ev_ireturn (st := []) rfl rfl d_Names_codeOf_51 (by rw [hP]; exact ⟨rfl, rfl⟩)
    · rw [if_neg c] at h
      refine ev_iload (i := 5) rfl d_Names_codeOf_43 ?_
      refine cw_bipush 122 d_Names_codeOf_45 rfl ?_
      refine ev_icmp_le (tgt := 52) (by decide) d_Names_codeOf_47 (fun c => ?_) (fun c => ?_)
      · rw [if_pos c] at h
        refine ev_iload_n (k0 := 3) rfl d_Names_codeOf_52 ?_
        refine cw_iconst 5 d_Names_codeOf_53 rfl ?_
        refine ev_ishl d_Names_codeOf_54 ?_
        refine ev_iload (i := 5) rfl d_Names_codeOf_55 ?_
        refine cw_bipush 97 d_Names_codeOf_57 rfl ?_
        refine ev_isub d_Names_codeOf_59 ?_
        refine cw_iconst 1 d_Names_codeOf_60 rfl ?_
        refine ev_iadd d_Names_codeOf_61 ?_
        refine ev_ior d_Names_codeOf_62 ?_
        obtain ⟨v2, e_v2, h⟩ := nm_some h
        refine cw_istoreN_n 3 v2 e_v2 [some (.inr (0, off 11 0)), none, some (.inl (.int x2)), some (.inl (.int v2)), some (.inl (.int x4)), some (.inl (.int r1))] d_Names_codeOf_63 rfl rfl rfl ?_
        refine cw_iincN 4 1 [some (.inr (0, off 11 0)), none, some (.inl (.int x2)), some (.inl (.int v2)), some (.inl (.int (x4 + 1))), some (.inl (.int r1))] d_Names_codeOf_64 rfl rfl rfl rfl rfl ?_
        refine Ev.at (pc' := 67) rfl ?_
        refine ev_goto (tgt := 22) (by decide) d_Names_codeOf_67 ?_
        exact Ev.sub (.s (.n (.s (.s (.s (.n LSb.z)))))) (kC _ (Option.some.inj h).symm)
      · rw [if_neg c] at h
        refine cw_iconst 0 d_Names_codeOf_50 rfl ?_
        have hP := kE _ (Option.some.inj h).symm
        exact ev_ireturn (st := []) rfl rfl d_Names_codeOf_51 (by rw [hP]; exact ⟨rfl, rfl⟩)
set_option maxRecDepth 100000 in
set_option maxHeartbeats 4000000 in
theorem w_Names_codeOf {g : GL} {F G : RG} {nx : Nat} (d : Nat) {x1 : Int32} {x2 : Int32} {μ : Mem}   {o : Int32} (hG : LM vc 0 535 μ F G) (h : f_Names_codeOf x1 x2 μ = some o) : Mt g (d + 1) m_Names_codeOf [.inr (0, off 11 0), .inl (.int x1), .inl (.int x2)] (G, nx) 0 0 (pRO (rI o) (G, nx)) := by
  unfold f_Names_codeOf at h
  have kE : ∀ v, o = v → pRO (rI o) (G, nx) = pRO (rI v) (G, nx) := fun v e => by subst e; rfl
  refine Mt.of9 [some (.inr (0, off 11 0)), some (.inl (.int x1)), some (.inl (.int x2)), none, none, none] (by decide +kernel) rfl rfl rfl rfl ?_
  refine ev_iload_n (k0 := 2) rfl d_Names_codeOf_0 ?_
  refine ev_iload_n (k0 := 1) rfl d_Names_codeOf_1 ?_
  refine ev_isub d_Names_codeOf_2 ?_
  refine cw_iconst 1 d_Names_codeOf_3 rfl ?_
  refine ev_icmp_lt (tgt := 15) (by decide) d_Names_codeOf_4 (fun c => ?_) (fun c => ?_)
  · rw [if_pos c] at h
    refine cw_iconst 0 d_Names_codeOf_15 rfl ?_
    have hP := kE _ (Option.some.inj h).symm
    exact ev_ireturn (st := []) rfl rfl d_Names_codeOf_16 (by rw [hP]; exact ⟨rfl, rfl⟩)
  · rw [if_neg c] at h
    refine ev_iload_n (k0 := 2) rfl d_Names_codeOf_7 ?_
    refine ev_iload_n (k0 := 1) rfl d_Names_codeOf_8 ?_
    refine ev_isub d_Names_codeOf_9 ?_
    refine cw_bipush 6 d_Names_codeOf_10 rfl ?_
    refine ev_icmp_le (tgt := 17) (by decide) d_Names_codeOf_12 (fun c => ?_) (fun c => ?_)
    · rw [if_pos c] at h
      refine cw_iconst 0 d_Names_codeOf_17 rfl ?_
      refine cw_istoreN_n 3 0 rfl [some (.inr (0, off 11 0)), some (.inl (.int x1)), some (.inl (.int x2)), some (.inl (.int 0)), none, none] d_Names_codeOf_18 rfl rfl rfl ?_
      refine ev_iload_n (k0 := 1) rfl d_Names_codeOf_19 ?_
      refine cw_istoreN 4 x1 rfl [some (.inr (0, off 11 0)), some (.inl (.int x1)), some (.inl (.int x2)), some (.inl (.int 0)), some (.inl (.int x1)), none] d_Names_codeOf_20 rfl rfl rfl ?_
      obtain ⟨q1, hl, h⟩ := bind_some9 h
      refine Ev.sub (ls' := [some (.inr (0, off 11 0)), none, some (.inl (.int x2)), some (.inl (.int 0)), some (.inl (.int x1)), none]) (.s (.n (.s (.s (.s (.n LSb.z)))))) ?_
      refine it_ev (W := fun (s : Int32 × Int32) => Ev g (d + 1) m_Names_codeOf 22 [some (.inr (0, off 11 0)), none, some (.inl (.int x2)), some (.inl (.int s.1)), some (.inl (.int s.2)), none] [] (G, nx) 0 0 (pRO (rI o) (G, nx))) (X := fun z => z = q1) rfl (fun s9 o9 hs kC9 kX9 => ?_) LIM _ hl
      refine ws_Names_codeOf_22 d  hG hs kC9 (fun r2 e => ?_) (fun v e => ?_)
      · obtain rfl := kX9 _ e
        rw [els_l] at h
        refine ev_iload_n (k0 := 3) rfl d_Names_codeOf_70 ?_
        have hP := kE _ (Option.some.inj h).symm
        exact ev_ireturn (st := []) rfl rfl d_Names_codeOf_71 (by rw [hP]; exact ⟨rfl, rfl⟩)
      · obtain rfl := kX9 _ e
        rw [els_r] at h
        exact kE _ (Option.some.inj h).symm
    · rw [if_neg c] at h
      refine cw_iconst 0 d_Names_codeOf_15 rfl ?_
      have hP := kE _ (Option.some.inj h).symm
      exact ev_ireturn (st := []) rfl rfl d_Names_codeOf_16 (by rw [hP]; exact ⟨rfl, rfl⟩)

/-- ProphecyShop$Reader.codeOfName -/
def f_Reader_codeOfName (K : Nat) (μ : Mem) : Option (Int32 × Mem) :=
  if (μ K 0 4) = 0 then (if (μ K 0 1) = 1 then (if ((μ K 0 3) - (μ K 0 2)) ≤ 6 then (((f_Names_codeOf (μ K 0 2) (μ K 0 3) μ)).bind (fun r2 => some ((r2, μ)))) else (((f_Reader_fail K 2 μ)).bind (fun r3 => some ((0, r3))))) else (((f_Reader_fail K 1 μ)).bind (fun r4 => some ((0, r4))))) else (((f_Reader_fail K 1 μ)).bind (fun r1 => some ((0, r1))))
set_option maxRecDepth 100000 in
set_option maxHeartbeats 4000000 in
theorem w_Reader_codeOfName_8 {g : GL} {F G : RG} {nx : Nat} (d : Nat)  {μ : Mem}   {o : Int32 × Mem} (hG : LM vc 0 535 μ F G) (h : f_Reader_codeOfName 8 μ = some o) : Mt g (d + 2) m_Reader_codeOfName [.inr (0, off 8 0)] (G, nx) 0 0 (pRW vc 0 535 (rI o.1) o.2 F nx) := by
  unfold f_Reader_codeOfName at h
  have kE : ∀ v, o = v → pRW vc 0 535 (rI o.1) o.2 F nx = pRW vc 0 535 (rI v.1) v.2 F nx := fun v e => by subst e; rfl
  refine Mt.of9 [some (.inr (0, off 8 0))] (by decide +kernel) rfl rfl rfl rfl ?_
  refine ev_aload_n (k0 := 0) rfl d_Reader_codeOfName_0 ?_
  refine cv_get9 (.inl (.int (μ 8 0 4))) hG v_8 fg_Reader_21_8 rfl rfl d_Reader_codeOfName_1 ?_
  refine ev_if_ne (tgt := 15) (by decide) d_Reader_codeOfName_4 (fun c => ?_) (fun c => ?_)
  · rw [if_neg c] at h
    refine ev_aload_n (k0 := 0) rfl d_Reader_codeOfName_15 ?_
    refine cw_iconst 1 d_Reader_codeOfName_16 rfl ?_
    obtain ⟨r1, hr1, h⟩ := bind_some9 h
    refine cv_U (d := d + 1) (mc1 := 0) (ms1 := 0) (mc := 0) (ms := 0) [.inl (.int 1)] hG v_8 rfl lk_Reader_64_8 (w_Reader_fail_8 (d + 1) hG hr1) rfl rfl d_Reader_codeOfName_17 (aft_rw (fun G hG => ?_))
    refine Ev.at (pc' := 20) rfl (Ev.cong (st' := []) ?_ rfl rfl)
    refine cw_iconst 0 d_Reader_codeOfName_20 rfl ?_
    have hP := kE _ (Option.some.inj h).symm
    exact ev_ireturn (st := []) rfl rfl d_Reader_codeOfName_21 (by rw [hP]; exact ⟨rfl, hG, rfl⟩)
  · rw [if_pos c] at h
    refine ev_aload_n (k0 := 0) rfl d_Reader_codeOfName_7 ?_
    refine cv_get9 (.inl (.int (μ 8 0 1))) hG v_8 fg_Reader_11_8 rfl rfl d_Reader_codeOfName_8 ?_
    refine cw_iconst 1 d_Reader_codeOfName_11 rfl ?_
    refine ev_icmp_eq (tgt := 22) (by decide) d_Reader_codeOfName_12 (fun c => ?_) (fun c => ?_)
    · rw [if_pos c] at h
      refine ev_aload_n (k0 := 0) rfl d_Reader_codeOfName_22 ?_
      refine cv_get9 (.inl (.int (μ 8 0 3))) hG v_8 fg_Reader_18_8 rfl rfl d_Reader_codeOfName_23 ?_
      refine ev_aload_n (k0 := 0) rfl d_Reader_codeOfName_26 ?_
      refine cv_get9 (.inl (.int (μ 8 0 2))) hG v_8 fg_Reader_15_8 rfl rfl d_Reader_codeOfName_27 ?_
      refine ev_isub d_Reader_codeOfName_30 ?_
      refine cw_bipush 6 d_Reader_codeOfName_31 rfl ?_
      refine ev_icmp_le (tgt := 43) (by decide) d_Reader_codeOfName_33 (fun c => ?_) (fun c => ?_)
      · rw [if_pos c] at h
        refine ev_aload_n (k0 := 0) rfl d_Reader_codeOfName_43 ?_
        refine cv_get9 (.inr (0, off 11 0)) hG v_8 fg_Reader_27_8 rfl rfl d_Reader_codeOfName_44 ?_
        refine ev_aload_n (k0 := 0) rfl d_Reader_codeOfName_47 ?_
        refine cv_get9 (.inl (.int (μ 8 0 2))) hG v_8 fg_Reader_15_8 rfl rfl d_Reader_codeOfName_48 ?_
        refine ev_aload_n (k0 := 0) rfl d_Reader_codeOfName_51 ?_
        refine cv_get9 (.inl (.int (μ 8 0 3))) hG v_8 fg_Reader_18_8 rfl rfl d_Reader_codeOfName_52 ?_
        obtain ⟨r2, hr2, h⟩ := bind_some9 h
        refine cw_S (d := d + 1) (mc1 := 0) (ms1 := 0) (mc := 0) (ms := 0) [.inr (0, off 11 0), .inl (.int (μ 8 0 2)), .inl (.int (μ 8 0 3))] lk_Reader_91 (w_Names_codeOf (d + 0) hG hr2) rfl rfl d_Reader_codeOfName_55 (aft_ro ?_)
        refine Ev.at (pc' := 58) rfl (Ev.cong (st' := [.inl (.int r2)]) ?_ rfl rfl)
        have hP := kE _ (Option.some.inj h).symm
        exact ev_ireturn (st := []) rfl rfl d_Reader_codeOfName_58 (by rw [hP]; exact ⟨rfl, hG, rfl⟩)
      · rw [if_neg c] at h
        refine ev_aload_n (k0 := 0) rfl d_Reader_codeOfName_36 ?_
        refine cw_iconst 2 d_Reader_codeOfName_37 rfl ?_
        obtain ⟨r3, hr3, h⟩ := bind_some9 h
        refine cv_U (d := d + 1) (mc1 := 0) (ms1 := 0) (mc := 0) (ms := 0) [.inl (.int 2)] hG v_8 rfl lk_Reader_64_8 (w_Reader_fail_8 (d + 1) hG hr3) rfl rfl d_Reader_codeOfName_38 (aft_rw (fun G hG => ?_))
        refine Ev.at (pc' := 41) rfl (Ev.cong (st' := []) ?_ rfl rfl)
        refine cw_iconst 0 d_Reader_codeOfName_41 rfl ?_
        have hP := kE _ (Option.some.inj h).symm
        exact ev_ireturn (st := []) rfl rfl d_Reader_codeOfName_42 (by rw [hP]; exact ⟨rfl, hG, rfl⟩)
    · rw [if_neg c] at h
      refine ev_aload_n (k0 := 0) rfl d_Reader_codeOfName_15 ?_
      refine cw_iconst 1 d_Reader_codeOfName_16 rfl ?_
      obtain ⟨r4, hr4, h⟩ := bind_some9 h
      refine cv_U (d := d + 1) (mc1 := 0) (ms1 := 0) (mc := 0) (ms := 0) [.inl (.int 1)] hG v_8 rfl lk_Reader_64_8 (w_Reader_fail_8 (d + 1) hG hr4) rfl rfl d_Reader_codeOfName_17 (aft_rw (fun G hG => ?_))
      refine Ev.at (pc' := 20) rfl (Ev.cong (st' := []) ?_ rfl rfl)
      refine cw_iconst 0 d_Reader_codeOfName_20 rfl ?_
      have hP := kE _ (Option.some.inj h).symm
      exact ev_ireturn (st := []) rfl rfl d_Reader_codeOfName_21 (by rw [hP]; exact ⟨rfl, hG, rfl⟩)

/-- ProphecyShop$Names.find -/
def s_Names_find_2 (j0 : Nat) (x1 : Int32) (x2 : Int32) (μ : Mem) : Option ((Int32) ⊕ ((Unit) ⊕ (Int32))) :=
  if (μ 3 j0 1) ≤ x2 then (some (.inr (.inl (())))) else (chk (inb x2 8) (if (μ 23 j0 x2.toNatClampNeg) = x1 then (some (.inr (.inr x2))) else (some (.inl (x2 + 1)))))
def f_Names_find (j0 : Nat) (x1 : Int32) (μ : Mem) : Option (Int32) :=
  (it (fun (s : Int32) => s_Names_find_2 j0 x1 s μ) LIM 0).bind (fun q1 => els q1 (fun r2 => some ((-1))) (fun v => some v))
set_option maxRecDepth 100000 in
set_option maxHeartbeats 4000000 in
theorem ws_Names_find_2 {g : GL} {F G : RG} {nx mc ms : Nat} {Post : RO → RM → Prop} (d : Nat) {j0 : Nat} {x1 : Int32} {x2 : Int32} {μ : Mem} (hv0 : vc 3 j0)  {o : (Int32) ⊕ ((Unit) ⊕ (Int32))} (hG : LM vc 0 535 μ F G) (h : s_Names_find_2 j0 x1 x2 μ = some o)
    (kC : ∀ s', o = .inl s' → Ev g (d + 0) m_Names_find 2 [some (.inr (0, off 3 j0)), some (.inl (.int x1)), some (.inl (.int s'))] [] (G, nx) mc ms Post)
    (kX : ∀ r, o = .inr (.inl r) → Ev g (d + 0) m_Names_find 28 [none, none, none] [] (G, nx) mc ms Post)
    (kE : ∀ v, o = .inr (.inr v) → Post = pRO (rI v) (G, nx)) : Ev g (d + 0) m_Names_find 2 [some (.inr (0, off 3 j0)), some (.inl (.int x1)), some (.inl (.int x2))] [] (G, nx) mc ms Post := by
  unfold s_Names_find_2 at h
  refine ev_iload_n (k0 := 2) rfl d_Names_find_2 ?_
  refine ev_aload_n (k0 := 0) rfl d_Names_find_3 ?_
  refine cv_get9 (.inl (.int (μ 3 j0 1))) hG hv0 fg_Names_15_3 rfl rfl d_Names_find_4 ?_
  refine ev_icmp_ge (tgt := 28) (by decide) d_Names_find_7 (fun c => ?_) (fun c => ?_)
  · rw [if_pos c] at h
    exact Ev.sub (.n (.n (.n LSb.z))) (kX _ (Option.some.inj h).symm)
  · rw [if_neg c] at h
    refine ev_aload_n (k0 := 0) rfl d_Names_find_10 ?_
    refine cv_get9 (.inr (0, off 23 j0)) hG hv0 fg_Names_9_3 rfl rfl d_Names_find_11 ?_
    refine ev_iload_n (k0 := 2) rfl d_Names_find_14 ?_
    obtain ⟨b1, h⟩ := chk_some h
    refine cv_iald hG (tv_3_0 hv0) rfl rfl b1 rfl d_Names_find_15 ?_
    refine ev_iload_n (k0 := 1) rfl d_Names_find_16 ?_
    refine ev_icmp_ne (tgt := 22) (by decide) d_Names_find_17 (fun c => ?_) (fun c => ?_)
    · rw [if_neg c] at h
      refine cw_iincN 2 1 [some (.inr (0, off 3 j0)), some (.inl (.int x1)), some (.inl (.int (x2 + 1)))] d_Names_find_22 rfl rfl rfl rfl rfl ?_
      refine ev_goto (tgt := 2) (by decide) d_Names_find_25 ?_
      exact kC _ (Option.some.inj h).symm
    · rw [if_pos c] at h
      refine ev_iload_n (k0 := 2) rfl d_Names_find_20 ?_
      have hP := kE _ (Option.some.inj h).symm
      exact ev_ireturn (st := []) rfl rfl d_Names_find_21 (by rw [hP]; exact ⟨rfl, rfl⟩)
set_option maxRecDepth 100000 in
set_option maxHeartbeats 4000000 in
theorem w_Names_find {g : GL} {F G : RG} {nx : Nat} (d : Nat) {j0 : Nat} {x1 : Int32} {μ : Mem} (hv0 : vc 3 j0)  {o : Int32} (hG : LM vc 0 535 μ F G) (h : f_Names_find j0 x1 μ = some o) : Mt g (d + 0) m_Names_find [.inr (0, off 3 j0), .inl (.int x1)] (G, nx) 0 0 (pRO (rI o) (G, nx)) := by
  unfold f_Names_find at h
  have kE : ∀ v, o = v → pRO (rI o) (G, nx) = pRO (rI v) (G, nx) := fun v e => by subst e; rfl
  refine Mt.of9 [some (.inr (0, off 3 j0)), some (.inl (.int x1)), none] (by decide +kernel) rfl rfl rfl rfl ?_
  refine cw_iconst 0 d_Names_find_0 rfl ?_
  refine cw_istoreN_n 2 0 rfl [some (.inr (0, off 3 j0)), some (.inl (.int x1)), some (.inl (.int 0))] d_Names_find_1 rfl rfl rfl ?_
  obtain ⟨q1, hl, h⟩ := bind_some9 h
  refine it_ev (W := fun (s : Int32) => Ev g (d + 0) m_Names_find 2 [some (.inr (0, off 3 j0)), some (.inl (.int x1)), some (.inl (.int s))] [] (G, nx) 0 0 (pRO (rI o) (G, nx))) (X := fun z => z = q1) rfl (fun s9 o9 hs kC9 kX9 => ?_) LIM _ hl
  refine ws_Names_find_2 d hv0 hG hs kC9 (fun r2 e => ?_) (fun v e => ?_)
  · obtain rfl := kX9 _ e
    rw [els_l] at h
    refine cw_iconst (-1) d_Names_find_28 rfl ?_
    have hP := kE _ (Option.some.inj h).symm
    exact ev_ireturn (st := []) rfl rfl d_Names_find_29 (by rw [hP]; exact ⟨rfl, rfl⟩)
  · obtain rfl := kX9 _ e
    rw [els_r] at h
    exact kE _ (Option.some.inj h).symm

/-- ProphecyShop$Reader.takeNewName -/
def f_Reader_takeNewName (K : Nat) (j1 : Nat) (μ : Mem) : Option (Int32 × Mem) :=
  ((f_Reader_codeOfName K μ)).bind (fun r1 => ((f_Names_find j1 r1.1 r1.2)).bind (fun r2 => ((if r2 = ((-1)) then (some (r1.2)) else (((f_Reader_fail K 3 r1.2)).bind (fun r5 => some (r5))) : Option (Mem))).bind (fun q3 => if (q3 K 0 4) = 0 then (((f_Reader_next K q3)).bind (fun r4 => some ((r1.1, r4)))) else (some ((r1.1, q3))))))
set_option maxRecDepth 100000 in
set_option maxHeartbeats 4000000 in
theorem w_Reader_takeNewName_8 {g : GL} {F G : RG} {nx : Nat} (d : Nat) {j1 : Nat} {μ : Mem} (hv1 : vc 3 j1)  {o : Int32 × Mem} (hG : LM vc 0 535 μ F G) (h : f_Reader_takeNewName 8 j1 μ = some o) : Mt g (d + 3) m_Reader_takeNewName [.inr (0, off 8 0), .inr (0, off 3 j1)] (G, nx) 0 0 (pRW vc 0 535 (rI o.1) o.2 F nx) := by
  unfold f_Reader_takeNewName at h
  have kE : ∀ v, o = v → pRW vc 0 535 (rI o.1) o.2 F nx = pRW vc 0 535 (rI v.1) v.2 F nx := fun v e => by subst e; rfl
  refine Mt.of9 [some (.inr (0, off 8 0)), some (.inr (0, off 3 j1)), none] (by decide +kernel) rfl rfl rfl rfl ?_
  refine ev_aload_n (k0 := 0) rfl d_Reader_takeNewName_0 ?_
  obtain ⟨r1, hr1, h⟩ := bind_some9 h
  refine cv_U (d := d + 2) (mc1 := 0) (ms1 := 0) (mc := 0) (ms := 0) [] hG v_8 rfl lk_Reader_83_8 (w_Reader_codeOfName_8 (d + 0) hG hr1) rfl rfl d_Reader_takeNewName_1 (aft_rw (fun G hG => ?_))
  refine Ev.at (pc' := 4) rfl (Ev.cong (st' := [.inl (.int r1.1)]) ?_ rfl rfl)
  refine cw_istoreN_n 2 r1.1 rfl [some (.inr (0, off 8 0)), some (.inr (0, off 3 j1)), some (.inl (.int r1.1))] d_Reader_takeNewName_4 rfl rfl rfl ?_
  refine ev_aload_n (k0 := 1) rfl d_Reader_takeNewName_5 ?_
  refine ev_iload_n (k0 := 2) rfl d_Reader_takeNewName_6 ?_
  obtain ⟨r2, hr2, h⟩ := bind_some9 h
  refine cv_V (d := d + 2) (mc1 := 0) (ms1 := 0) (mc := 0) (ms := 0) [.inl (.int r1.1)] hG hv1 rfl lk_Reader_86 (w_Names_find (d + 2) hv1 hG hr2) rfl rfl d_Reader_takeNewName_7 (aft_ro ?_)
  refine Ev.at (pc' := 10) rfl (Ev.cong (st' := [.inl (.int r2)]) ?_ rfl rfl)
  refine cw_iconst (-1) d_Reader_takeNewName_10 rfl ?_
  obtain ⟨q3, hj, h⟩ := bind_some9 h
  have K_q3 : ∀ G, LM vc 0 535 q3 F G → Ev g (d + 3) m_Reader_takeNewName 19 [some (.inr (0, off 8 0)), none, some (.inl (.int r1.1))] [] (G, nx) 0 0 (pRW vc 0 535 (rI o.1) o.2 F nx) := by
    intro G hG
    refine ev_aload_n (k0 := 0) rfl d_Reader_takeNewName_19 ?_
    refine cv_get9 (.inl (.int (q3 8 0 4))) hG v_8 fg_Reader_21_8 rfl rfl d_Reader_takeNewName_20 ?_
    refine ev_if_ne (tgt := 30) (by decide) d_Reader_takeNewName_23 (fun c => ?_) (fun c => ?_)
    · rw [if_neg c] at h
      refine ev_iload_n (k0 := 2) rfl d_Reader_takeNewName_30 ?_
      have hP := kE _ (Option.some.inj h).symm
      exact ev_ireturn (st := []) rfl rfl d_Reader_takeNewName_31 (by rw [hP]; exact ⟨rfl, hG, rfl⟩)
    · rw [if_pos c] at h
      refine ev_aload_n (k0 := 0) rfl d_Reader_takeNewName_26 ?_
      obtain ⟨r4, hr4, h⟩ := bind_some9 h
      refine cv_U (d := d + 2) (mc1 := 0) (ms1 := 0) (mc := 0) (ms := 0) [] hG v_8 rfl lk_Reader_31_8 (w_Reader_next_8 (d + 1) hG hr4) rfl rfl d_Reader_takeNewName_27 (aft_rw (fun G hG => ?_))
      refine Ev.at (pc' := 30) rfl (Ev.cong (st' := []) ?_ rfl rfl)
      refine ev_iload_n (k0 := 2) rfl d_Reader_takeNewName_30 ?_
      have hP := kE _ (Option.some.inj h).symm
      exact ev_ireturn (st := []) rfl rfl d_Reader_takeNewName_31 (by rw [hP]; exact ⟨rfl, hG, rfl⟩)
  clear h
  have h := hj
  refine ev_icmp_eq (tgt := 19) (by decide) d_Reader_takeNewName_11 (fun c => ?_) (fun c => ?_)
  · rw [if_pos c] at h
    obtain rfl := Option.some.inj h
    exact Ev.sub (.s (.n (.s LSb.z))) (K_q3 G hG)
  · rw [if_neg c] at h
    refine ev_aload_n (k0 := 0) rfl d_Reader_takeNewName_14 ?_
    refine cw_iconst 3 d_Reader_takeNewName_15 rfl ?_
    obtain ⟨r5, hr5, h⟩ := bind_some9 h
    refine cv_U (d := d + 2) (mc1 := 0) (ms1 := 0) (mc := 0) (ms := 0) [.inl (.int 3)] hG v_8 rfl lk_Reader_64_8 (w_Reader_fail_8 (d + 2) hG hr5) rfl rfl d_Reader_takeNewName_16 (aft_rw (fun G hG => ?_))
    refine Ev.at (pc' := 19) rfl (Ev.cong (st' := []) ?_ rfl rfl)
    obtain rfl := Option.some.inj h
    exact Ev.sub (.s (.n (.s LSb.z))) (K_q3 G hG)

/-- ProphecyShop$Names.add -/
def f_Names_add (j0 : Nat) (x1 : Int32) (μ : Mem) : Option (Mem) :=
  if (8 : Int32) ≤ (μ 3 j0 1) then some μ else (chk (inb (μ 3 j0 1) 8) (nm (st3 μ 23 j0 (μ 3 j0 1).toNatClampNeg x1) (fun μ2 => nm (st3 μ2 3 j0 1 ((μ2 3 j0 1) + 1)) (fun μ3 => some μ3))))
set_option maxRecDepth 100000 in
set_option maxHeartbeats 4000000 in
theorem w_Names_add {g : GL} {F G : RG} {nx : Nat} (d : Nat) {j0 : Nat} {x1 : Int32} {μ : Mem} (hv0 : vc 3 j0)  {o : Mem} (hG : LM vc 0 535 μ F G) (h : f_Names_add j0 x1 μ = some o) : Mt g (d + 0) m_Names_add [.inr (0, off 3 j0), .inl (.int x1)] (G, nx) 0 0 (pRW vc 0 535 rV o F nx) := by
  unfold f_Names_add at h
  have kE : ∀ v, o = v → pRW vc 0 535 rV o F nx = pRW vc 0 535 rV v F nx := fun v e => by subst e; rfl
  refine Mt.of9 [some (.inr (0, off 3 j0)), some (.inl (.int x1))] (by decide +kernel) rfl rfl rfl rfl ?_
  refine ev_aload_n (k0 := 0) rfl d_Names_add_0 ?_
  refine cv_get9 (.inl (.int (μ 3 j0 1))) hG hv0 fg_Names_15_3 rfl rfl d_Names_add_1 ?_
  refine cw_bipush 8 d_Names_add_4 rfl ?_
  refine ev_icmp_ge (tgt := 29) (by decide) d_Names_add_6 (fun c => ?_) (fun c => ?_)
  · rw [if_pos c] at h
    have hP := kE _ (Option.some.inj h).symm
    exact ev_return (st := []) rfl d_Names_add_29 (by rw [hP]; exact ⟨rfl, hG, rfl⟩)
  · rw [if_neg c] at h
    refine ev_aload_n (k0 := 0) rfl d_Names_add_9 ?_
    refine cv_get9 (.inr (0, off 23 j0)) hG hv0 fg_Names_9_3 rfl rfl d_Names_add_10 ?_
    refine ev_aload_n (k0 := 0) rfl d_Names_add_13 ?_
    refine cv_get9 (.inl (.int (μ 3 j0 1))) hG hv0 fg_Names_15_3 rfl rfl d_Names_add_14 ?_
    refine ev_iload_n (k0 := 1) rfl d_Names_add_17 ?_
    obtain ⟨b1, h⟩ := chk_some h
    obtain ⟨μ2, e_μ2, h⟩ := nm_some h
    refine cv_iast hG okC (tv_3_0 hv0) rfl rfl b1 rfl d_Names_add_18 ?_
    intro G hG; rw [← e_μ2] at hG
    refine ev_aload_n (k0 := 0) rfl d_Names_add_19 ?_
    refine ev_dup rfl d_Names_add_20 ?_
    refine cv_get9 (.inl (.int (μ2 3 j0 1))) hG hv0 fg_Names_15_3 rfl rfl d_Names_add_21 ?_
    refine cw_iconst 1 d_Names_add_24 rfl ?_
    refine ev_iadd d_Names_add_25 ?_
    refine Ev.at (pc' := 26) rfl ?_
    obtain ⟨μ3, e_μ3, h⟩ := nm_some h
    refine cv_put (.inl (.int ((μ2 3 j0 1) + 1))) ((μ2 3 j0 1) + 1) hG okC hv0 fl_Names_15_3 rfl rfl okv_int d_Names_add_26 ?_
    intro G hG; rw [← e_μ3] at hG
    have hP := kE _ (Option.some.inj h).symm
    exact ev_return (st := []) rfl d_Names_add_29 (by rw [hP]; exact ⟨rfl, hG, rfl⟩)

/-- ProphecyShop$SetupReader.readNames -/
def s_SetupReader_readNames_15 (w1 : Nat) (j2 : Nat) (x3 : Int32) (μ : Mem) : Option ((Int32 × Mem) ⊕ (Mem)) :=
  if (6 : Int32) < x3 then (some (.inr μ)) else (((f_Reader_sees 8 w1 μ)).bind (fun r1 => if r1 = 0 then (some (.inr μ)) else (((f_Reader_takeCounted 8 w1 x3 6 μ)).bind (fun r2 => ((f_Reader_takeNewName 8 j2 r2)).bind (fun r3 => ((f_Names_add j2 r3.1 r3.2)).bind (fun r4 => ((f_Reader_takeSign 8 59 r4)).bind (fun r5 => some (.inl ((x3 + 1, r5))))))))))
def f_SetupReader_readNames (w1 : Nat) (j2 : Nat) (μ : Mem) : Option (Mem) :=
  ((f_Reader_sees 8 w1 μ)).bind (fun r1 => ((if r1 = 0 then (((f_Reader_fail 8 1 μ)).bind (fun r4 => some (r4))) else (some (μ)) : Option (Mem))).bind (fun q2 => (it (fun (s : Int32 × Mem) => s_SetupReader_readNames_15 w1 j2 s.1 s.2) LIM ((0, q2))).bind (fun q3 => some q3)))
set_option maxRecDepth 100000 in
set_option maxHeartbeats 4000000 in
theorem ws_SetupReader_readNames_15 {g : GL} {F G : RG} {nx mc ms : Nat} {Post : RO → RM → Prop} (d : Nat) {w1 : Nat} {j2 : Nat} {x3 : Int32} {μ : Mem} (hw1 : w1 < 28) (hv2 : vc 3 j2) (hSG : SG g) {o : (Int32 × Mem) ⊕ (Mem)} (hG : LM vc 0 535 μ F G) (h : s_SetupReader_readNames_15 w1 j2 x3 μ = some o)
    (kC : ∀ s', o = .inl s' → ∀ G, LM vc 0 535 s'.2 F G → Ev g (d + 6) m_SetupReader_readNames 15 [some (.inr (0, off 8 0)), some (.inr (1, w1)), some (.inr (0, off 3 j2)), some (.inl (.int s'.1))] [] (G, nx) mc ms Post)
    (kX : ∀ r, o = .inr r → ∀ G, LM vc 0 535 r F G → Ev g (d + 6) m_SetupReader_readNames 58 [none, none, none, none] [] (G, nx) mc ms Post)
    : Ev g (d + 6) m_SetupReader_readNames 15 [some (.inr (0, off 8 0)), some (.inr (1, w1)), some (.inr (0, off 3 j2)), some (.inl (.int x3))] [] (G, nx) mc ms Post := by
  unfold s_SetupReader_readNames_15 at h
  refine ev_iload_n (k0 := 3) rfl d_SetupReader_readNames_15 ?_
  refine cw_bipush 6 d_SetupReader_readNames_16 rfl ?_
  refine ev_icmp_gt (tgt := 58) (by decide) d_SetupReader_readNames_18 (fun c => ?_) (fun c => ?_)
  · rw [if_pos c] at h
    exact Ev.sub (.n (.n (.n (.n LSb.z)))) (kX _ (Option.some.inj h).symm G hG)
  · rw [if_neg c] at h
    refine ev_aload_n (k0 := 0) rfl d_SetupReader_readNames_21 ?_
    refine ev_aload_n (k0 := 1) rfl d_SetupReader_readNames_22 ?_
    obtain ⟨r1, hr1, h⟩ := bind_some9 h
    refine Ev.z9 ?_
    refine cv_U (d := d + 5) (mc1 := 0) (ms1 := 0) (mc := mc) (ms := ms) [.inr (1, w1)] hG v_8 rfl lk_SetupReader_87_8 (w_Reader_sees_8 (d + 1) hw1 hSG hG hr1) rfl rfl d_SetupReader_readNames_23 (aft_ro ?_)
    refine Ev.at (pc' := 26) rfl (Ev.cong (st' := [.inl (.int r1)]) ?_ rfl rfl)
    refine ev_if_eq (tgt := 58) (by decide) d_SetupReader_readNames_26 (fun c => ?_) (fun c => ?_)
    · rw [if_pos c] at h
      exact Ev.sub (.n (.n (.n (.n LSb.z)))) (kX _ (Option.some.inj h).symm G hG)
    · rw [if_neg c] at h
      refine ev_aload_n (k0 := 0) rfl d_SetupReader_readNames_29 ?_
      refine ev_aload_n (k0 := 1) rfl d_SetupReader_readNames_30 ?_
      refine ev_iload_n (k0 := 3) rfl d_SetupReader_readNames_31 ?_
      refine cw_bipush 6 d_SetupReader_readNames_32 rfl ?_
      obtain ⟨r2, hr2, h⟩ := bind_some9 h
      refine Ev.z9 ?_
      refine cv_U (d := d + 5) (mc1 := 0) (ms1 := 0) (mc := mc) (ms := ms) [.inr (1, w1), .inl (.int x3), .inl (.int 6)] hG v_8 rfl lk_SetupReader_91_8 (w_Reader_takeCounted_8 (d + 0) hw1 hSG hG hr2) rfl rfl d_SetupReader_readNames_34 (aft_rw (fun G hG => ?_))
      refine Ev.at (pc' := 37) rfl (Ev.cong (st' := []) ?_ rfl rfl)
      refine ev_aload_n (k0 := 2) rfl d_SetupReader_readNames_37 ?_
      refine ev_aload_n (k0 := 0) rfl d_SetupReader_readNames_38 ?_
      refine ev_aload_n (k0 := 2) rfl d_SetupReader_readNames_39 ?_
      obtain ⟨r3, hr3, h⟩ := bind_some9 h
      refine Ev.z9 ?_
      refine cv_U (d := d + 5) (mc1 := 0) (ms1 := 0) (mc := mc) (ms := ms) [.inr (0, off 3 j2)] hG v_8 rfl lk_SetupReader_95_8 (w_Reader_takeNewName_8 (d + 2) hv2 hG hr3) rfl rfl d_SetupReader_readNames_40 (aft_rw (fun G hG => ?_))
      refine Ev.at (pc' := 43) rfl (Ev.cong (st' := [.inl (.int r3.1), .inr (0, off 3 j2)]) ?_ rfl rfl)
      obtain ⟨r4, hr4, h⟩ := bind_some9 h
      refine Ev.z9 ?_
      refine cv_V (d := d + 5) (mc1 := 0) (ms1 := 0) (mc := mc) (ms := ms) [.inl (.int r3.1)] hG hv2 rfl lk_SetupReader_99 (w_Names_add (d + 5) hv2 hG hr4) rfl rfl d_SetupReader_readNames_43 (aft_rw (fun G hG => ?_))
      refine Ev.at (pc' := 46) rfl (Ev.cong (st' := []) ?_ rfl rfl)
      refine ev_aload_n (k0 := 0) rfl d_SetupReader_readNames_46 ?_
      refine cw_bipush 59 d_SetupReader_readNames_47 rfl ?_
      obtain ⟨r5, hr5, h⟩ := bind_some9 h
      refine Ev.z9 ?_
      refine cv_U (d := d + 5) (mc1 := 0) (ms1 := 0) (mc := mc) (ms := ms) [.inl (.int 59)] hG v_8 rfl lk_SetupReader_83_8 (w_Reader_takeSign_8 (d + 3) hG hr5) rfl rfl d_SetupReader_readNames_49 (aft_rw (fun G hG => ?_))
      refine Ev.at (pc' := 52) rfl (Ev.cong (st' := []) ?_ rfl rfl)
      refine cw_iincN 3 1 [some (.inr (0, off 8 0)), some (.inr (1, w1)), some (.inr (0, off 3 j2)), some (.inl (.int (x3 + 1)))] d_SetupReader_readNames_52 rfl rfl rfl rfl rfl ?_
      refine ev_goto (tgt := 15) (by decide) d_SetupReader_readNames_55 ?_
      exact kC _ (Option.some.inj h).symm G hG
set_option maxRecDepth 100000 in
set_option maxHeartbeats 4000000 in
theorem w_SetupReader_readNames {g : GL} {F G : RG} {nx : Nat} (d : Nat) {w1 : Nat} {j2 : Nat} {μ : Mem} (hw1 : w1 < 28) (hv2 : vc 3 j2) (hSG : SG g) {o : Mem} (hG : LM vc 0 535 μ F G) (h : f_SetupReader_readNames w1 j2 μ = some o) : Mt g (d + 6) m_SetupReader_readNames [.inr (0, off 8 0), .inr (1, w1), .inr (0, off 3 j2)] (G, nx) 0 0 (pRW vc 0 535 rV o F nx) := by
  unfold f_SetupReader_readNames at h
  have kE : ∀ v, o = v → pRW vc 0 535 rV o F nx = pRW vc 0 535 rV v F nx := fun v e => by subst e; rfl
  refine Mt.of9 [some (.inr (0, off 8 0)), some (.inr (1, w1)), some (.inr (0, off 3 j2)), none] (by decide +kernel) rfl rfl rfl rfl ?_
  refine ev_aload_n (k0 := 0) rfl d_SetupReader_readNames_0 ?_
  refine ev_aload_n (k0 := 1) rfl d_SetupReader_readNames_1 ?_
  obtain ⟨r1, hr1, h⟩ := bind_some9 h
  refine cv_U (d := d + 5) (mc1 := 0) (ms1 := 0) (mc := 0) (ms := 0) [.inr (1, w1)] hG v_8 rfl lk_SetupReader_87_8 (w_Reader_sees_8 (d + 1) hw1 hSG hG hr1) rfl rfl d_SetupReader_readNames_2 (aft_ro ?_)
  refine Ev.at (pc' := 5) rfl (Ev.cong (st' := [.inl (.int r1)]) ?_ rfl rfl)
  obtain ⟨q2, hj, h⟩ := bind_some9 h
  have K_q2 : ∀ G, LM vc 0 535 q2 F G → Ev g (d + 6) m_SetupReader_readNames 13 [some (.inr (0, off 8 0)), some (.inr (1, w1)), some (.inr (0, off 3 j2)), none] [] (G, nx) 0 0 (pRW vc 0 535 rV o F nx) := by
    intro G hG
    refine cw_iconst 0 d_SetupReader_readNames_13 rfl ?_
    refine cw_istoreN_n 3 0 rfl [some (.inr (0, off 8 0)), some (.inr (1, w1)), some (.inr (0, off 3 j2)), some (.inl (.int 0))] d_SetupReader_readNames_14 rfl rfl rfl ?_
    obtain ⟨q3, hl, h⟩ := bind_some9 h
    refine it_ev (W := fun (s : Int32 × Mem) => ∀ G, LM vc 0 535 s.2 F G → Ev g (d + 6) m_SetupReader_readNames 15 [some (.inr (0, off 8 0)), some (.inr (1, w1)), some (.inr (0, off 3 j2)), some (.inl (.int s.1))] [] (G, nx) 0 0 (pRW vc 0 535 rV o F nx)) (X := fun z => z = q3) rfl (fun s9 o9 hs kC9 kX9 => ?_) LIM _ hl G hG
    intro G hG
    refine ws_SetupReader_readNames_15 d hw1 hv2 hSG hG hs kC9 (fun r_ e G hG => ?_)
    · obtain rfl := (kX9 _ e).symm
      have hP := kE _ (Option.some.inj h).symm
      exact ev_return (st := []) rfl d_SetupReader_readNames_58 (by rw [hP]; exact ⟨rfl, hG, rfl⟩)
  clear h
  have h := hj
  refine ev_if_ne (tgt := 13) (by decide) d_SetupReader_readNames_5 (fun c => ?_) (fun c => ?_)
  · rw [if_neg c] at h
    obtain rfl := Option.some.inj h
    exact K_q2 G hG
  · rw [if_pos c] at h
    refine ev_aload_n (k0 := 0) rfl d_SetupReader_readNames_8 ?_
    refine cw_iconst 1 d_SetupReader_readNames_9 rfl ?_
    obtain ⟨r4, hr4, h⟩ := bind_some9 h
    refine cv_U (d := d + 5) (mc1 := 0) (ms1 := 0) (mc := 0) (ms := 0) [.inl (.int 1)] hG v_8 rfl lk_SetupReader_49_8 (w_Reader_fail_8 (d + 5) hG hr4) rfl rfl d_SetupReader_readNames_10 (aft_rw (fun G hG => ?_))
    refine Ev.at (pc' := 13) rfl (Ev.cong (st' := []) ?_ rfl rfl)
    obtain rfl := Option.some.inj h
    exact K_q2 G hG

/-- ProphecyShop$Setup.addCustomer -/
def f_Setup_addCustomer (j0 : Nat) (x1 : Int32) (x2 : Int32) (x3 : Int32) (μ : Mem) : Option (Mem) :=
  nm (μ 3 (3 * j0 + 2) 1 : Int32) (fun v1 => if (8 : Int32) ≤ v1 then some μ else (chk (inb v1 8) (nm (st3 μ 24 j0 v1.toNatClampNeg x2) (fun μ3 => chk (inb v1 8) (nm (st3 μ3 25 j0 v1.toNatClampNeg x3) (fun μ5 => ((f_Names_add (3 * j0 + 2) x1 μ5)).bind (fun r6 => some r6)))))))
set_option maxRecDepth 100000 in
set_option maxHeartbeats 4000000 in
theorem w_Setup_addCustomer {g : GL} {F G : RG} {nx : Nat} (d : Nat) {j0 : Nat} {x1 : Int32} {x2 : Int32} {x3 : Int32} {μ : Mem} (hv0 : vc 7 j0)  {o : Mem} (hG : LM vc 0 535 μ F G) (h : f_Setup_addCustomer j0 x1 x2 x3 μ = some o) : Mt g (d + 1) m_Setup_addCustomer [.inr (0, off 7 j0), .inl (.int x1), .inl (.int x2), .inl (.int x3)] (G, nx) 0 0 (pRW vc 0 535 rV o F nx) := by
  unfold f_Setup_addCustomer at h
  have kE : ∀ v, o = v → pRW vc 0 535 rV o F nx = pRW vc 0 535 rV v F nx := fun v e => by subst e; rfl
  refine Mt.of9 [some (.inr (0, off 7 j0)), some (.inl (.int x1)), some (.inl (.int x2)), some (.inl (.int x3)), none] (by decide +kernel) rfl rfl rfl rfl ?_
  refine ev_aload_n (k0 := 0) rfl d_Setup_addCustomer_0 ?_
  refine cv_get9 (.inr (0, off 3 (3 * j0 + 2))) hG hv0 fg_Setup_37_7 rfl rfl d_Setup_addCustomer_1 ?_
  refine cv_get9 (.inl (.int (μ 3 (3 * j0 + 2) 1))) hG (tv_7_7 hv0) fg_Setup_53_3 rfl rfl d_Setup_addCustomer_4 ?_
  obtain ⟨v1, e_v1, h⟩ := nm_some h
  refine cw_istoreN 4 v1 e_v1 [some (.inr (0, off 7 j0)), some (.inl (.int x1)), some (.inl (.int x2)), some (.inl (.int x3)), some (.inl (.int v1))] d_Setup_addCustomer_7 rfl rfl rfl ?_
  refine ev_iload (i := 4) rfl d_Setup_addCustomer_9 ?_
  refine cw_bipush 8 d_Setup_addCustomer_11 rfl ?_
  refine ev_icmp_ge (tgt := 40) (by decide) d_Setup_addCustomer_13 (fun c => ?_) (fun c => ?_)
  · rw [if_pos c] at h
    have hP := kE _ (Option.some.inj h).symm
    exact ev_return (st := []) rfl d_Setup_addCustomer_40 (by rw [hP]; exact ⟨rfl, hG, rfl⟩)
  · rw [if_neg c] at h
    refine ev_aload_n (k0 := 0) rfl d_Setup_addCustomer_16 ?_
    refine cv_get9 (.inr (0, off 24 j0)) hG hv0 fg_Setup_40_7 rfl rfl d_Setup_addCustomer_17 ?_
    refine ev_iload (i := 4) rfl d_Setup_addCustomer_20 ?_
    refine ev_iload_n (k0 := 2) rfl d_Setup_addCustomer_22 ?_
    obtain ⟨b2, h⟩ := chk_some h
    obtain ⟨μ3, e_μ3, h⟩ := nm_some h
    refine cv_iast hG okC (tv_7_8 hv0) rfl rfl b2 rfl d_Setup_addCustomer_23 ?_
    intro G hG; rw [← e_μ3] at hG
    refine ev_aload_n (k0 := 0) rfl d_Setup_addCustomer_24 ?_
    refine cv_get9 (.inr (0, off 25 j0)) hG hv0 fg_Setup_44_7 rfl rfl d_Setup_addCustomer_25 ?_
    refine ev_iload (i := 4) rfl d_Setup_addCustomer_28 ?_
    refine ev_iload_n (k0 := 3) rfl d_Setup_addCustomer_30 ?_
    obtain ⟨b4, h⟩ := chk_some h
    obtain ⟨μ5, e_μ5, h⟩ := nm_some h
    refine cv_iast hG okC (tv_7_9 hv0) rfl rfl b4 rfl d_Setup_addCustomer_31 ?_
    intro G hG; rw [← e_μ5] at hG
    refine ev_aload_n (k0 := 0) rfl d_Setup_addCustomer_32 ?_
    refine Ev.at (pc' := 33) rfl ?_
    refine cv_get9 (.inr (0, off 3 (3 * j0 + 2))) hG hv0 fg_Setup_37_7 rfl rfl d_Setup_addCustomer_33 ?_
    refine ev_iload_n (k0 := 1) rfl d_Setup_addCustomer_36 ?_
    obtain ⟨r6, hr6, h⟩ := bind_some9 h
    refine cv_V (d := d + 0) (mc1 := 0) (ms1 := 0) (mc := 0) (ms := 0) [.inl (.int x1)] hG (tv_7_7 hv0) rfl lk_Setup_56 (w_Names_add (d + 0) (tv_7_7 hv0) hG hr6) rfl rfl d_Setup_addCustomer_37 (aft_rw (fun G hG => ?_))
    refine Ev.at (pc' := 40) rfl (Ev.cong (st' := []) ?_ rfl rfl)
    have hP := kE _ (Option.some.inj h).symm
    exact ev_return (st := []) rfl d_Setup_addCustomer_40 (by rw [hP]; exact ⟨rfl, hG, rfl⟩)

/-- ProphecyShop$SetupReader.readCustomers -/
def s_SetupReader_readCustomers_2 (j1 : Nat) (x2 : Int32) (μ : Mem) : Option ((Int32 × Mem) ⊕ (Mem)) :=
  if (8 : Int32) < x2 then (some (.inr μ)) else (((f_Reader_sees 8 5 μ)).bind (fun r1 => if r1 = 0 then (some (.inr μ)) else (((f_Reader_takeCounted 8 5 x2 8 μ)).bind (fun r2 => ((f_Reader_takeNewName 8 (3 * j1 + 2) r2)).bind (fun r3 => ((f_Reader_takeNumber 8 0 9999 r3.2)).bind (fun r4 => ((f_Reader_takeNumber 8 1 30 r4.2)).bind (fun r5 => ((f_Reader_takeSign 8 59 r5.2)).bind (fun r6 => ((f_Setup_addCustomer j1 r3.1 r4.1 r5.1 r6)).bind (fun r7 => some (.inl ((x2 + 1, r7))))))))))))
def f_SetupReader_readCustomers (j1 : Nat) (μ : Mem) : Option (Mem) :=
  (it (fun (s : Int32 × Mem) => s_SetupReader_readCustomers_2 j1 s.1 s.2) LIM ((0, μ))).bind (fun q1 => some q1)
set_option maxRecDepth 100000 in
set_option maxHeartbeats 4000000 in
theorem ws_SetupReader_readCustomers_2 {g : GL} {F G : RG} {nx mc ms : Nat} {Post : RO → RM → Prop} (d : Nat) {j1 : Nat} {x2 : Int32} {μ : Mem} (hv1 : vc 7 j1) (hSG : SG g) {o : (Int32 × Mem) ⊕ (Mem)} (hG : LM vc 0 535 μ F G) (h : s_SetupReader_readCustomers_2 j1 x2 μ = some o)
    (kC : ∀ s', o = .inl s' → ∀ G, LM vc 0 535 s'.2 F G → Ev g (d + 6) m_SetupReader_readCustomers 2 [some (.inr (0, off 8 0)), some (.inr (0, off 7 j1)), some (.inl (.int s'.1)), none, none, none] [] (G, nx) mc ms Post)
    (kX : ∀ r, o = .inr r → ∀ G, LM vc 0 535 r F G → Ev g (d + 6) m_SetupReader_readCustomers 75 [none, none, none, none, none, none] [] (G, nx) mc ms Post)
    : Ev g (d + 6) m_SetupReader_readCustomers 2 [some (.inr (0, off 8 0)), some (.inr (0, off 7 j1)), some (.inl (.int x2)), none, none, none] [] (G, nx) mc ms Post := by
  unfold s_SetupReader_readCustomers_2 at h
  refine ev_iload_n (k0 := 2) rfl d_SetupReader_readCustomers_2 ?_
  refine cw_bipush 8 d_SetupReader_readCustomers_3 rfl ?_
  refine ev_icmp_gt (tgt := 75) (by decide) d_SetupReader_readCustomers_5 (fun c => ?_) (fun c => ?_)
  · rw [if_pos c] at h
    exact Ev.sub (.n (.n (.n (.n (.n (.n LSb.z)))))) (kX _ (Option.some.inj h).symm G hG)
  · rw [if_neg c] at h
    refine ev_aload_n (k0 := 0) rfl d_SetupReader_readCustomers_8 ?_
    refine ev_ldcS st_5 d_SetupReader_readCustomers_9 ?_
    obtain ⟨r1, hr1, h⟩ := bind_some9 h
    refine Ev.z9 ?_
    refine cv_U (d := d + 5) (mc1 := 0) (ms1 := 0) (mc := mc) (ms := ms) [.inr (1, 5)] hG v_8 rfl lk_SetupReader_87_8 (w_Reader_sees_8 (d + 1) (by decide) hSG hG hr1) rfl rfl d_SetupReader_readCustomers_11 (aft_ro ?_)
    refine Ev.at (pc' := 14) rfl (Ev.cong (st' := [.inl (.int r1)]) ?_ rfl rfl)
    refine ev_if_eq (tgt := 75) (by decide) d_SetupReader_readCustomers_14 (fun c => ?_) (fun c => ?_)
    · rw [if_pos c] at h
      exact Ev.sub (.n (.n (.n (.n (.n (.n LSb.z)))))) (kX _ (Option.some.inj h).symm G hG)
    · rw [if_neg c] at h
      refine ev_aload_n (k0 := 0) rfl d_SetupReader_readCustomers_17 ?_
      refine ev_ldcS st_5 d_SetupReader_readCustomers_18 ?_
      refine ev_iload_n (k0 := 2) rfl d_SetupReader_readCustomers_20 ?_
      refine cw_bipush 8 d_SetupReader_readCustomers_21 rfl ?_
      obtain ⟨r2, hr2, h⟩ := bind_some9 h
      refine Ev.z9 ?_
      refine cv_U (d := d + 5) (mc1 := 0) (ms1 := 0) (mc := mc) (ms := ms) [.inr (1, 5), .inl (.int x2), .inl (.int 8)] hG v_8 rfl lk_SetupReader_91_8 (w_Reader_takeCounted_8 (d + 0) (by decide) hSG hG hr2) rfl rfl d_SetupReader_readCustomers_23 (aft_rw (fun G hG => ?_))
      refine Ev.at (pc' := 26) rfl (Ev.cong (st' := []) ?_ rfl rfl)
      refine ev_aload_n (k0 := 0) rfl d_SetupReader_readCustomers_26 ?_
      refine ev_aload_n (k0 := 1) rfl d_SetupReader_readCustomers_27 ?_
      refine cv_get9 (.inr (0, off 3 (3 * j1 + 2))) hG hv1 fg_SetupReader_106_7 rfl rfl d_SetupReader_readCustomers_28 ?_
      obtain ⟨r3, hr3, h⟩ := bind_some9 h
      refine Ev.z9 ?_
      refine cv_U (d := d + 5) (mc1 := 0) (ms1 := 0) (mc := mc) (ms := ms) [.inr (0, off 3 (3 * j1 + 2))] hG v_8 rfl lk_SetupReader_95_8 (w_Reader_takeNewName_8 (d + 2) (tv_7_7 hv1) hG hr3) rfl rfl d_SetupReader_readCustomers_31 (aft_rw (fun G hG => ?_))
      refine Ev.at (pc' := 34) rfl (Ev.cong (st' := [.inl (.int r3.1)]) ?_ rfl rfl)
      refine cw_istoreN_n 3 r3.1 rfl [some (.inr (0, off 8 0)), some (.inr (0, off 7 j1)), some (.inl (.int x2)), some (.inl (.int r3.1)), none, none] d_SetupReader_readCustomers_34 rfl rfl rfl ?_
      refine ev_aload_n (k0 := 0) rfl d_SetupReader_readCustomers_35 ?_
      refine cw_iconst 0 d_SetupReader_readCustomers_36 rfl ?_
      refine cw_sipush 9999 d_SetupReader_readCustomers_37 rfl ?_
      obtain ⟨r4, hr4, h⟩ := bind_some9 h
      refine Ev.z9 ?_
      refine cv_U (d := d + 5) (mc1 := 0) (ms1 := 0) (mc := mc) (ms := ms) [.inl (.int 0), .inl (.int 9999)] hG v_8 rfl lk_SetupReader_64_8 (w_Reader_takeNumber_8 (d + 3) hG hr4) rfl rfl d_SetupReader_readCustomers_40 (aft_rw (fun G hG => ?_))
      refine Ev.at (pc' := 43) rfl (Ev.cong (st' := [.inl (.int r4.1)]) ?_ rfl rfl)
      refine cw_istoreN 4 r4.1 rfl [some (.inr (0, off 8 0)), some (.inr (0, off 7 j1)), some (.inl (.int x2)), some (.inl (.int r3.1)), some (.inl (.int r4.1)), none] d_SetupReader_readCustomers_43 rfl rfl rfl ?_
      refine ev_aload_n (k0 := 0) rfl d_SetupReader_readCustomers_45 ?_
      refine cw_iconst 1 d_SetupReader_readCustomers_46 rfl ?_
      refine cw_bipush 30 d_SetupReader_readCustomers_47 rfl ?_
      obtain ⟨r5, hr5, h⟩ := bind_some9 h
      refine Ev.z9 ?_
      refine cv_U (d := d + 5) (mc1 := 0) (ms1 := 0) (mc := mc) (ms := ms) [.inl (.int 1), .inl (.int 30)] hG v_8 rfl lk_SetupReader_64_8 (w_Reader_takeNumber_8 (d + 3) hG hr5) rfl rfl d_SetupReader_readCustomers_49 (aft_rw (fun G hG => ?_))
      refine Ev.at (pc' := 52) rfl (Ev.cong (st' := [.inl (.int r5.1)]) ?_ rfl rfl)
      refine cw_istoreN 5 r5.1 rfl [some (.inr (0, off 8 0)), some (.inr (0, off 7 j1)), some (.inl (.int x2)), some (.inl (.int r3.1)), some (.inl (.int r4.1)), some (.inl (.int r5.1))] d_SetupReader_readCustomers_52 rfl rfl rfl ?_
      refine ev_aload_n (k0 := 0) rfl d_SetupReader_readCustomers_54 ?_
      refine cw_bipush 59 d_SetupReader_readCustomers_55 rfl ?_
      obtain ⟨r6, hr6, h⟩ := bind_some9 h
      refine Ev.z9 ?_
      refine cv_U (d := d + 5) (mc1 := 0) (ms1 := 0) (mc := mc) (ms := ms) [.inl (.int 59)] hG v_8 rfl lk_SetupReader_83_8 (w_Reader_takeSign_8 (d + 3) hG hr6) rfl rfl d_SetupReader_readCustomers_57 (aft_rw (fun G hG => ?_))
      refine Ev.at (pc' := 60) rfl (Ev.cong (st' := []) ?_ rfl rfl)
      refine ev_aload_n (k0 := 1) rfl d_SetupReader_readCustomers_60 ?_
      refine ev_iload_n (k0 := 3) rfl d_SetupReader_readCustomers_61 ?_
      refine ev_iload (i := 4) rfl d_SetupReader_readCustomers_62 ?_
      refine ev_iload (i := 5) rfl d_SetupReader_readCustomers_64 ?_
      obtain ⟨r7, hr7, h⟩ := bind_some9 h
      refine Ev.z9 ?_
      refine cv_V (d := d + 5) (mc1 := 0) (ms1 := 0) (mc := mc) (ms := ms) [.inl (.int r3.1), .inl (.int r4.1), .inl (.int r5.1)] hG hv1 rfl lk_SetupReader_109 (w_Setup_addCustomer (d + 4) hv1 hG hr7) rfl rfl d_SetupReader_readCustomers_66 (aft_rw (fun G hG => ?_))
      refine Ev.at (pc' := 69) rfl (Ev.cong (st' := []) ?_ rfl rfl)
      refine cw_iincN 2 1 [some (.inr (0, off 8 0)), some (.inr (0, off 7 j1)), some (.inl (.int (x2 + 1))), some (.inl (.int r3.1)), some (.inl (.int r4.1)), some (.inl (.int r5.1))] d_SetupReader_readCustomers_69 rfl rfl rfl rfl rfl ?_
      refine ev_goto (tgt := 2) (by decide) d_SetupReader_readCustomers_72 ?_
      exact Ev.sub (.s (.s (.s (.n (.n (.n LSb.z)))))) (kC _ (Option.some.inj h).symm G hG)
set_option maxRecDepth 100000 in
set_option maxHeartbeats 4000000 in
theorem w_SetupReader_readCustomers {g : GL} {F G : RG} {nx : Nat} (d : Nat) {j1 : Nat} {μ : Mem} (hv1 : vc 7 j1) (hSG : SG g) {o : Mem} (hG : LM vc 0 535 μ F G) (h : f_SetupReader_readCustomers j1 μ = some o) : Mt g (d + 6) m_SetupReader_readCustomers [.inr (0, off 8 0), .inr (0, off 7 j1)] (G, nx) 0 0 (pRW vc 0 535 rV o F nx) := by
  unfold f_SetupReader_readCustomers at h
  have kE : ∀ v, o = v → pRW vc 0 535 rV o F nx = pRW vc 0 535 rV v F nx := fun v e => by subst e; rfl
  refine Mt.of9 [some (.inr (0, off 8 0)), some (.inr (0, off 7 j1)), none, none, none, none] (by decide +kernel) rfl rfl rfl rfl ?_
  refine cw_iconst 0 d_SetupReader_readCustomers_0 rfl ?_
  refine cw_istoreN_n 2 0 rfl [some (.inr (0, off 8 0)), some (.inr (0, off 7 j1)), some (.inl (.int 0)), none, none, none] d_SetupReader_readCustomers_1 rfl rfl rfl ?_
  obtain ⟨q1, hl, h⟩ := bind_some9 h
  refine it_ev (W := fun (s : Int32 × Mem) => ∀ G, LM vc 0 535 s.2 F G → Ev g (d + 6) m_SetupReader_readCustomers 2 [some (.inr (0, off 8 0)), some (.inr (0, off 7 j1)), some (.inl (.int s.1)), none, none, none] [] (G, nx) 0 0 (pRW vc 0 535 rV o F nx)) (X := fun z => z = q1) rfl (fun s9 o9 hs kC9 kX9 => ?_) LIM _ hl G hG
  intro G hG
  refine ws_SetupReader_readCustomers_2 d hv1 hSG hG hs kC9 (fun r_ e G hG => ?_)
  · obtain rfl := (kX9 _ e).symm
    have hP := kE _ (Option.some.inj h).symm
    exact ev_return (st := []) rfl d_SetupReader_readCustomers_75 (by rw [hP]; exact ⟨rfl, hG, rfl⟩)

/-- ProphecyShop$Setup.addOwl -/
def f_Setup_addOwl (j0 : Nat) (x1 : Int32) (μ : Mem) : Option (Mem) :=
  if (5 : Int32) ≤ (μ 7 j0 11) then some μ else (chk (inb (μ 7 j0 11) 5) (nm (st3 μ 26 j0 (μ 7 j0 11).toNatClampNeg x1) (fun μ2 => nm (st3 μ2 7 j0 11 ((μ2 7 j0 11) + 1)) (fun μ3 => some μ3))))
set_option maxRecDepth 100000 in
set_option maxHeartbeats 4000000 in
theorem w_Setup_addOwl {g : GL} {F G : RG} {nx : Nat} (d : Nat) {j0 : Nat} {x1 : Int32} {μ : Mem} (hv0 : vc 7 j0)  {o : Mem} (hG : LM vc 0 535 μ F G) (h : f_Setup_addOwl j0 x1 μ = some o) : Mt g (d + 0) m_Setup_addOwl [.inr (0, off 7 j0), .inl (.int x1)] (G, nx) 0 0 (pRW vc 0 535 rV o F nx) := by
  unfold f_Setup_addOwl at h
  have kE : ∀ v, o = v → pRW vc 0 535 rV o F nx = pRW vc 0 535 rV v F nx := fun v e => by subst e; rfl
  refine Mt.of9 [some (.inr (0, off 7 j0)), some (.inl (.int x1))] (by decide +kernel) rfl rfl rfl rfl ?_
  refine ev_aload_n (k0 := 0) rfl d_Setup_addOwl_0 ?_
  refine cv_get9 (.inl (.int (μ 7 j0 11))) hG hv0 fg_Setup_50_7 rfl rfl d_Setup_addOwl_1 ?_
  refine cw_iconst 5 d_Setup_addOwl_4 rfl ?_
  refine ev_icmp_ge (tgt := 28) (by decide) d_Setup_addOwl_5 (fun c => ?_) (fun c => ?_)
  · rw [if_pos c] at h
    have hP := kE _ (Option.some.inj h).symm
    exact ev_return (st := []) rfl d_Setup_addOwl_28 (by rw [hP]; exact ⟨rfl, hG, rfl⟩)
  · rw [if_neg c] at h
    refine ev_aload_n (k0 := 0) rfl d_Setup_addOwl_8 ?_
    refine cv_get9 (.inr (0, off 26 j0)) hG hv0 fg_Setup_47_7 rfl rfl d_Setup_addOwl_9 ?_
    refine ev_aload_n (k0 := 0) rfl d_Setup_addOwl_12 ?_
    refine cv_get9 (.inl (.int (μ 7 j0 11))) hG hv0 fg_Setup_50_7 rfl rfl d_Setup_addOwl_13 ?_
    refine ev_iload_n (k0 := 1) rfl d_Setup_addOwl_16 ?_
    obtain ⟨b1, h⟩ := chk_some h
    obtain ⟨μ2, e_μ2, h⟩ := nm_some h
    refine cv_iast hG okC (tv_7_10 hv0) rfl rfl b1 rfl d_Setup_addOwl_17 ?_
    intro G hG; rw [← e_μ2] at hG
    refine ev_aload_n (k0 := 0) rfl d_Setup_addOwl_18 ?_
    refine ev_dup rfl d_Setup_addOwl_19 ?_
    refine cv_get9 (.inl (.int (μ2 7 j0 11))) hG hv0 fg_Setup_50_7 rfl rfl d_Setup_addOwl_20 ?_
    refine cw_iconst 1 d_Setup_addOwl_23 rfl ?_
    refine ev_iadd d_Setup_addOwl_24 ?_
    refine Ev.at (pc' := 25) rfl ?_
    obtain ⟨μ3, e_μ3, h⟩ := nm_some h
    refine cv_put (.inl (.int ((μ2 7 j0 11) + 1))) ((μ2 7 j0 11) + 1) hG okC hv0 fl_Setup_50_7 rfl rfl okv_int d_Setup_addOwl_25 ?_
    intro G hG; rw [← e_μ3] at hG
    have hP := kE _ (Option.some.inj h).symm
    exact ev_return (st := []) rfl d_Setup_addOwl_28 (by rw [hP]; exact ⟨rfl, hG, rfl⟩)

/-- ProphecyShop$SetupReader.readOwls -/
def s_SetupReader_readOwls_2 (j1 : Nat) (x2 : Int32) (μ : Mem) : Option ((Int32 × Mem) ⊕ (Mem)) :=
  if (5 : Int32) < x2 then (some (.inr μ)) else (((f_Reader_sees 8 6 μ)).bind (fun r1 => if r1 = 0 then (some (.inr μ)) else (((f_Reader_takeCounted 8 6 x2 5 μ)).bind (fun r2 => ((f_Reader_takeNumber 8 1 9 r2)).bind (fun r3 => ((f_Reader_takeSign 8 59 r3.2)).bind (fun r4 => ((f_Setup_addOwl j1 r3.1 r4)).bind (fun r5 => some (.inl ((x2 + 1, r5))))))))))
def f_SetupReader_readOwls (j1 : Nat) (μ : Mem) : Option (Mem) :=
  (it (fun (s : Int32 × Mem) => s_SetupReader_readOwls_2 j1 s.1 s.2) LIM ((0, μ))).bind (fun q1 => some q1)
set_option maxRecDepth 100000 in
set_option maxHeartbeats 4000000 in
theorem ws_SetupReader_readOwls_2 {g : GL} {F G : RG} {nx mc ms : Nat} {Post : RO → RM → Prop} (d : Nat) {j1 : Nat} {x2 : Int32} {μ : Mem} (hv1 : vc 7 j1) (hSG : SG g) {o : (Int32 × Mem) ⊕ (Mem)} (hG : LM vc 0 535 μ F G) (h : s_SetupReader_readOwls_2 j1 x2 μ = some o)
    (kC : ∀ s', o = .inl s' → ∀ G, LM vc 0 535 s'.2 F G → Ev g (d + 6) m_SetupReader_readOwls 2 [some (.inr (0, off 8 0)), some (.inr (0, off 7 j1)), some (.inl (.int s'.1)), none] [] (G, nx) mc ms Post)
    (kX : ∀ r, o = .inr r → ∀ G, LM vc 0 535 r F G → Ev g (d + 6) m_SetupReader_readOwls 49 [none, none, none, none] [] (G, nx) mc ms Post)
    : Ev g (d + 6) m_SetupReader_readOwls 2 [some (.inr (0, off 8 0)), some (.inr (0, off 7 j1)), some (.inl (.int x2)), none] [] (G, nx) mc ms Post := by
  unfold s_SetupReader_readOwls_2 at h
  refine ev_iload_n (k0 := 2) rfl d_SetupReader_readOwls_2 ?_
  refine cw_iconst 5 d_SetupReader_readOwls_3 rfl ?_
  refine ev_icmp_gt (tgt := 49) (by decide) d_SetupReader_readOwls_4 (fun c => ?_) (fun c => ?_)
  · rw [if_pos c] at h
    exact Ev.sub (.n (.n (.n (.n LSb.z)))) (kX _ (Option.some.inj h).symm G hG)
  · rw [if_neg c] at h
    refine ev_aload_n (k0 := 0) rfl d_SetupReader_readOwls_7 ?_
    refine ev_ldcS st_6 d_SetupReader_readOwls_8 ?_
    obtain ⟨r1, hr1, h⟩ := bind_some9 h
    refine Ev.z9 ?_
    refine cv_U (d := d + 5) (mc1 := 0) (ms1 := 0) (mc := mc) (ms := ms) [.inr (1, 6)] hG v_8 rfl lk_SetupReader_87_8 (w_Reader_sees_8 (d + 1) (by decide) hSG hG hr1) rfl rfl d_SetupReader_readOwls_10 (aft_ro ?_)
    refine Ev.at (pc' := 13) rfl (Ev.cong (st' := [.inl (.int r1)]) ?_ rfl rfl)
    refine ev_if_eq (tgt := 49) (by decide) d_SetupReader_readOwls_13 (fun c => ?_) (fun c => ?_)
    · rw [if_pos c] at h
      exact Ev.sub (.n (.n (.n (.n LSb.z)))) (kX _ (Option.some.inj h).symm G hG)
    · rw [if_neg c] at h
      refine ev_aload_n (k0 := 0) rfl d_SetupReader_readOwls_16 ?_
      refine ev_ldcS st_6 d_SetupReader_readOwls_17 ?_
      refine ev_iload_n (k0 := 2) rfl d_SetupReader_readOwls_19 ?_
      refine cw_iconst 5 d_SetupReader_readOwls_20 rfl ?_
      obtain ⟨r2, hr2, h⟩ := bind_some9 h
      refine Ev.z9 ?_
      refine cv_U (d := d + 5) (mc1 := 0) (ms1 := 0) (mc := mc) (ms := ms) [.inr (1, 6), .inl (.int x2), .inl (.int 5)] hG v_8 rfl lk_SetupReader_91_8 (w_Reader_takeCounted_8 (d + 0) (by decide) hSG hG hr2) rfl rfl d_SetupReader_readOwls_21 (aft_rw (fun G hG => ?_))
      refine Ev.at (pc' := 24) rfl (Ev.cong (st' := []) ?_ rfl rfl)
      refine ev_aload_n (k0 := 0) rfl d_SetupReader_readOwls_24 ?_
      refine cw_iconst 1 d_SetupReader_readOwls_25 rfl ?_
      refine cw_bipush 9 d_SetupReader_readOwls_26 rfl ?_
      obtain ⟨r3, hr3, h⟩ := bind_some9 h
      refine Ev.z9 ?_
      refine cv_U (d := d + 5) (mc1 := 0) (ms1 := 0) (mc := mc) (ms := ms) [.inl (.int 1), .inl (.int 9)] hG v_8 rfl lk_SetupReader_64_8 (w_Reader_takeNumber_8 (d + 3) hG hr3) rfl rfl d_SetupReader_readOwls_28 (aft_rw (fun G hG => ?_))
      refine Ev.at (pc' := 31) rfl (Ev.cong (st' := [.inl (.int r3.1)]) ?_ rfl rfl)
      refine cw_istoreN_n 3 r3.1 rfl [some (.inr (0, off 8 0)), some (.inr (0, off 7 j1)), some (.inl (.int x2)), some (.inl (.int r3.1))] d_SetupReader_readOwls_31 rfl rfl rfl ?_
      refine ev_aload_n (k0 := 0) rfl d_SetupReader_readOwls_32 ?_
      refine cw_bipush 59 d_SetupReader_readOwls_33 rfl ?_
      obtain ⟨r4, hr4, h⟩ := bind_some9 h
      refine Ev.z9 ?_
      refine cv_U (d := d + 5) (mc1 := 0) (ms1 := 0) (mc := mc) (ms := ms) [.inl (.int 59)] hG v_8 rfl lk_SetupReader_83_8 (w_Reader_takeSign_8 (d + 3) hG hr4) rfl rfl d_SetupReader_readOwls_35 (aft_rw (fun G hG => ?_))
      refine Ev.at (pc' := 38) rfl (Ev.cong (st' := []) ?_ rfl rfl)
      refine ev_aload_n (k0 := 1) rfl d_SetupReader_readOwls_38 ?_
      refine ev_iload_n (k0 := 3) rfl d_SetupReader_readOwls_39 ?_
      obtain ⟨r5, hr5, h⟩ := bind_some9 h
      refine Ev.z9 ?_
      refine cv_V (d := d + 5) (mc1 := 0) (ms1 := 0) (mc := mc) (ms := ms) [.inl (.int r3.1)] hG hv1 rfl lk_SetupReader_115 (w_Setup_addOwl (d + 5) hv1 hG hr5) rfl rfl d_SetupReader_readOwls_40 (aft_rw (fun G hG => ?_))
      refine Ev.at (pc' := 43) rfl (Ev.cong (st' := []) ?_ rfl rfl)
      refine cw_iincN 2 1 [some (.inr (0, off 8 0)), some (.inr (0, off 7 j1)), some (.inl (.int (x2 + 1))), some (.inl (.int r3.1))] d_SetupReader_readOwls_43 rfl rfl rfl rfl rfl ?_
      refine ev_goto (tgt := 2) (by decide) d_SetupReader_readOwls_46 ?_
      exact Ev.sub (.s (.s (.s (.n LSb.z)))) (kC _ (Option.some.inj h).symm G hG)
set_option maxRecDepth 100000 in
set_option maxHeartbeats 4000000 in
theorem w_SetupReader_readOwls {g : GL} {F G : RG} {nx : Nat} (d : Nat) {j1 : Nat} {μ : Mem} (hv1 : vc 7 j1) (hSG : SG g) {o : Mem} (hG : LM vc 0 535 μ F G) (h : f_SetupReader_readOwls j1 μ = some o) : Mt g (d + 6) m_SetupReader_readOwls [.inr (0, off 8 0), .inr (0, off 7 j1)] (G, nx) 0 0 (pRW vc 0 535 rV o F nx) := by
  unfold f_SetupReader_readOwls at h
  have kE : ∀ v, o = v → pRW vc 0 535 rV o F nx = pRW vc 0 535 rV v F nx := fun v e => by subst e; rfl
  refine Mt.of9 [some (.inr (0, off 8 0)), some (.inr (0, off 7 j1)), none, none] (by decide +kernel) rfl rfl rfl rfl ?_
  refine cw_iconst 0 d_SetupReader_readOwls_0 rfl ?_
  refine cw_istoreN_n 2 0 rfl [some (.inr (0, off 8 0)), some (.inr (0, off 7 j1)), some (.inl (.int 0)), none] d_SetupReader_readOwls_1 rfl rfl rfl ?_
  obtain ⟨q1, hl, h⟩ := bind_some9 h
  refine it_ev (W := fun (s : Int32 × Mem) => ∀ G, LM vc 0 535 s.2 F G → Ev g (d + 6) m_SetupReader_readOwls 2 [some (.inr (0, off 8 0)), some (.inr (0, off 7 j1)), some (.inl (.int s.1)), none] [] (G, nx) 0 0 (pRW vc 0 535 rV o F nx)) (X := fun z => z = q1) rfl (fun s9 o9 hs kC9 kX9 => ?_) LIM _ hl G hG
  intro G hG
  refine ws_SetupReader_readOwls_2 d hv1 hSG hG hs kC9 (fun r_ e G hG => ?_)
  · obtain rfl := (kX9 _ e).symm
    have hP := kE _ (Option.some.inj h).symm
    exact ev_return (st := []) rfl d_SetupReader_readOwls_49 (by rw [hP]; exact ⟨rfl, hG, rfl⟩)

/-- ProphecyShop$Reader.seesEnd -/
def f_Reader_seesEnd (K : Nat) (μ : Mem) : Option (Int32) :=
  if (μ K 0 1) = 0 then some 1 else (some 0)
set_option maxRecDepth 100000 in
set_option maxHeartbeats 4000000 in
theorem w_Reader_seesEnd_8 {g : GL} {F G : RG} {nx : Nat} (d : Nat)  {μ : Mem}   {o : Int32} (hG : LM vc 0 535 μ F G) (h : f_Reader_seesEnd 8 μ = some o) : Mt g (d + 0) m_Reader_seesEnd [.inr (0, off 8 0)] (G, nx) 0 0 (pRO (rI o) (G, nx)) := by
  unfold f_Reader_seesEnd at h
  have kE : ∀ v, o = v → pRO (rI o) (G, nx) = pRO (rI v) (G, nx) := fun v e => by subst e; rfl
  refine Mt.of9 [some (.inr (0, off 8 0))] (by decide +kernel) rfl rfl rfl rfl ?_
  refine ev_aload_n (k0 := 0) rfl d_Reader_seesEnd_0 ?_
  refine cv_get9 (.inl (.int (μ 8 0 1))) hG v_8 fg_Reader_11_8 rfl rfl d_Reader_seesEnd_1 ?_
  refine ev_if_ne (tgt := 11) (by decide) d_Reader_seesEnd_4 (fun c => ?_) (fun c => ?_)
  · rw [if_neg c] at h
    refine cw_iconst 0 d_Reader_seesEnd_11 rfl ?_
    have hP := kE _ (Option.some.inj h).symm
    exact ev_ireturn (st := []) rfl rfl d_Reader_seesEnd_12 (by rw [hP]; exact ⟨rfl, rfl⟩)
  · rw [if_pos c] at h
    refine cw_iconst 1 d_Reader_seesEnd_7 rfl ?_
    refine ev_goto (tgt := 12) (by decide) d_Reader_seesEnd_8 ?_
    have hP := kE _ (Option.some.inj h).symm
    exact ev_ireturn (st := []) rfl rfl d_Reader_seesEnd_12 (by rw [hP]; exact ⟨rfl, rfl⟩)

/-- ProphecyShop$SetupReader.readInto -/
def f_SetupReader_readInto (j1 : Nat) (μ : Mem) : Option (Int32 × Mem) :=
  ((f_Setup_clear j1 μ)).bind (fun r1 => ((f_Reader_begin 8 r1)).bind (fun r2 => ((f_SetupReader_readShop j1 r2)).bind (fun r3 => ((f_SetupReader_readNames 3 (3 * j1) r3)).bind (fun r4 => ((f_SetupReader_readNames 4 (3 * j1 + 1) r4)).bind (fun r5 => ((f_SetupReader_readCustomers j1 r5)).bind (fun r6 => ((f_SetupReader_readOwls j1 r6)).bind (fun r7 => ((f_Reader_seesEnd 8 r7)).bind (fun r8 => if r8 = 0 then (((f_Reader_fail 8 1 r7)).bind (fun r9 => some ((r9 8 0 4, r9)))) else (some ((r7 8 0 4, r7)))))))))))
set_option maxRecDepth 100000 in
set_option maxHeartbeats 4000000 in
theorem w_SetupReader_readInto {g : GL} {F G : RG} {nx : Nat} (d : Nat) {j1 : Nat} {μ : Mem} (hv1 : vc 7 j1) (hSG : SG g) {o : Int32 × Mem} (hG : LM vc 0 535 μ F G) (h : f_SetupReader_readInto j1 μ = some o) : Mt g (d + 7) m_SetupReader_readInto [.inr (0, off 8 0), .inr (0, off 7 j1)] (G, nx) 0 0 (pRW vc 0 535 (rI o.1) o.2 F nx) := by
  unfold f_SetupReader_readInto at h
  have kE : ∀ v, o = v → pRW vc 0 535 (rI o.1) o.2 F nx = pRW vc 0 535 (rI v.1) v.2 F nx := fun v e => by subst e; rfl
  refine Mt.of9 [some (.inr (0, off 8 0)), some (.inr (0, off 7 j1))] (by decide +kernel) rfl rfl rfl rfl ?_
  refine ev_aload_n (k0 := 1) rfl d_SetupReader_readInto_0 ?_
  obtain ⟨r1, hr1, h⟩ := bind_some9 h
  refine cv_V (d := d + 6) (mc1 := 0) (ms1 := 0) (mc := 0) (ms := 0) [] hG hv1 rfl lk_SetupReader_9 (w_Setup_clear (d + 6) hv1 hG hr1) rfl rfl d_SetupReader_readInto_1 (aft_rw (fun G hG => ?_))
  refine Ev.at (pc' := 4) rfl (Ev.cong (st' := []) ?_ rfl rfl)
  refine ev_aload_n (k0 := 0) rfl d_SetupReader_readInto_4 ?_
  obtain ⟨r2, hr2, h⟩ := bind_some9 h
  refine cv_U (d := d + 6) (mc1 := 0) (ms1 := 0) (mc := 0) (ms := 0) [] hG v_8 rfl lk_SetupReader_15_8 (w_Reader_begin_8 (d + 4) hG hr2) rfl rfl d_SetupReader_readInto_5 (aft_rw (fun G hG => ?_))
  refine Ev.at (pc' := 8) rfl (Ev.cong (st' := []) ?_ rfl rfl)
  refine ev_aload_n (k0 := 0) rfl d_SetupReader_readInto_8 ?_
  refine ev_aload_n (k0 := 1) rfl d_SetupReader_readInto_9 ?_
  obtain ⟨r3, hr3, h⟩ := bind_some9 h
  refine cv_V (d := d + 6) (mc1 := 0) (ms1 := 0) (mc := 0) (ms := 0) [.inr (0, off 7 j1)] hG v_8 rfl lk_SetupReader_20 (w_SetupReader_readShop (d + 0) hv1 hSG hG hr3) rfl rfl d_SetupReader_readInto_10 (aft_rw (fun G hG => ?_))
  refine Ev.at (pc' := 13) rfl (Ev.cong (st' := []) ?_ rfl rfl)
  refine ev_aload_n (k0 := 0) rfl d_SetupReader_readInto_13 ?_
  refine ev_ldcS st_3 d_SetupReader_readInto_14 ?_
  refine ev_aload_n (k0 := 1) rfl d_SetupReader_readInto_16 ?_
  refine cv_get9 (.inr (0, off 3 (3 * j1))) hG hv1 fg_SetupReader_26_7 rfl rfl d_SetupReader_readInto_17 ?_
  obtain ⟨r4, hr4, h⟩ := bind_some9 h
  refine cv_V (d := d + 6) (mc1 := 0) (ms1 := 0) (mc := 0) (ms := 0) [.inr (1, 3), .inr (0, off 3 (3 * j1))] hG v_8 rfl lk_SetupReader_30 (w_SetupReader_readNames (d + 0) (by decide) (tv_7_5 hv1) hSG hG hr4) rfl rfl d_SetupReader_readInto_20 (aft_rw (fun G hG => ?_))
  refine Ev.at (pc' := 23) rfl (Ev.cong (st' := []) ?_ rfl rfl)
  refine ev_aload_n (k0 := 0) rfl d_SetupReader_readInto_23 ?_
  refine ev_ldcS st_4 d_SetupReader_readInto_24 ?_
  refine ev_aload_n (k0 := 1) rfl d_SetupReader_readInto_26 ?_
  refine cv_get9 (.inr (0, off 3 (3 * j1 + 1))) hG hv1 fg_SetupReader_36_7 rfl rfl d_SetupReader_readInto_27 ?_
  obtain ⟨r5, hr5, h⟩ := bind_some9 h
  refine cv_V (d := d + 6) (mc1 := 0) (ms1 := 0) (mc := 0) (ms := 0) [.inr (1, 4), .inr (0, off 3 (3 * j1 + 1))] hG v_8 rfl lk_SetupReader_30 (w_SetupReader_readNames (d + 0) (by decide) (tv_7_6 hv1) hSG hG hr5) rfl rfl d_SetupReader_readInto_30 (aft_rw (fun G hG => ?_))
  refine Ev.at (pc' := 33) rfl (Ev.cong (st' := []) ?_ rfl rfl)
  refine ev_aload_n (k0 := 0) rfl d_SetupReader_readInto_33 ?_
  refine ev_aload_n (k0 := 1) rfl d_SetupReader_readInto_34 ?_
  obtain ⟨r6, hr6, h⟩ := bind_some9 h
  refine cv_V (d := d + 6) (mc1 := 0) (ms1 := 0) (mc := 0) (ms := 0) [.inr (0, off 7 j1)] hG v_8 rfl lk_SetupReader_39 (w_SetupReader_readCustomers (d + 0) hv1 hSG hG hr6) rfl rfl d_SetupReader_readInto_35 (aft_rw (fun G hG => ?_))
  refine Ev.at (pc' := 38) rfl (Ev.cong (st' := []) ?_ rfl rfl)
  refine ev_aload_n (k0 := 0) rfl d_SetupReader_readInto_38 ?_
  refine ev_aload_n (k0 := 1) rfl d_SetupReader_readInto_39 ?_
  obtain ⟨r7, hr7, h⟩ := bind_some9 h
  refine cv_V (d := d + 6) (mc1 := 0) (ms1 := 0) (mc := 0) (ms := 0) [.inr (0, off 7 j1)] hG v_8 rfl lk_SetupReader_42 (w_SetupReader_readOwls (d + 0) hv1 hSG hG hr7) rfl rfl d_SetupReader_readInto_40 (aft_rw (fun G hG => ?_))
  refine Ev.at (pc' := 43) rfl (Ev.cong (st' := []) ?_ rfl rfl)
  refine ev_aload_n (k0 := 0) rfl d_SetupReader_readInto_43 ?_
  obtain ⟨r8, hr8, h⟩ := bind_some9 h
  refine cv_U (d := d + 6) (mc1 := 0) (ms1 := 0) (mc := 0) (ms := 0) [] hG v_8 rfl lk_SetupReader_45_8 (w_Reader_seesEnd_8 (d + 6) hG hr8) rfl rfl d_SetupReader_readInto_44 (aft_ro ?_)
  refine Ev.at (pc' := 47) rfl (Ev.cong (st' := [.inl (.int r8)]) ?_ rfl rfl)
  refine ev_if_ne (tgt := 55) (by decide) d_SetupReader_readInto_47 (fun c => ?_) (fun c => ?_)
  · rw [if_neg c] at h
    refine ev_aload_n (k0 := 0) rfl d_SetupReader_readInto_55 ?_
    refine cv_get9 (.inl (.int (r7 8 0 4))) hG v_8 fg_SetupReader_53_8 rfl rfl d_SetupReader_readInto_56 ?_
    have hP := kE _ (Option.some.inj h).symm
    exact ev_ireturn (st := []) rfl rfl d_SetupReader_readInto_59 (by rw [hP]; exact ⟨rfl, hG, rfl⟩)
  · rw [if_pos c] at h
    refine ev_aload_n (k0 := 0) rfl d_SetupReader_readInto_50 ?_
    refine cw_iconst 1 d_SetupReader_readInto_51 rfl ?_
    obtain ⟨r9, hr9, h⟩ := bind_some9 h
    refine cv_U (d := d + 6) (mc1 := 0) (ms1 := 0) (mc := 0) (ms := 0) [.inl (.int 1)] hG v_8 rfl lk_SetupReader_49_8 (w_Reader_fail_8 (d + 6) hG hr9) rfl rfl d_SetupReader_readInto_52 (aft_rw (fun G hG => ?_))
    refine Ev.at (pc' := 55) rfl (Ev.cong (st' := []) ?_ rfl rfl)
    refine ev_aload_n (k0 := 0) rfl d_SetupReader_readInto_55 ?_
    refine cv_get9 (.inl (.int (r9 8 0 4))) hG v_8 fg_SetupReader_53_8 rfl rfl d_SetupReader_readInto_56 ?_
    have hP := kE _ (Option.some.inj h).symm
    exact ev_ireturn (st := []) rfl rfl d_SetupReader_readInto_59 (by rw [hP]; exact ⟨rfl, hG, rfl⟩)

/-- ProphecyShop$Owl.rest -/
def f_Owl_rest (j0 : Nat) (μ : Mem) : Option (Mem) :=
  nm (st3 μ 4 j0 0 0) (fun μ1 => nm (st3 μ1 4 j0 1 0) (fun μ2 => nm (st3 μ2 4 j0 4 0) (fun μ3 => some μ3)))
set_option maxRecDepth 100000 in
set_option maxHeartbeats 4000000 in
theorem w_Owl_rest {g : GL} {F G : RG} {nx : Nat} (d : Nat) {j0 : Nat} {μ : Mem} (hv0 : vc 4 j0)  {o : Mem} (hG : LM vc 0 535 μ F G) (h : f_Owl_rest j0 μ = some o) : Mt g (d + 0) m_Owl_rest [.inr (0, off 4 j0)] (G, nx) 0 0 (pRW vc 0 535 rV o F nx) := by
  unfold f_Owl_rest at h
  have kE : ∀ v, o = v → pRW vc 0 535 rV o F nx = pRW vc 0 535 rV v F nx := fun v e => by subst e; rfl
  refine Mt.of9 [some (.inr (0, off 4 j0))] (by decide +kernel) rfl rfl rfl rfl ?_
  refine ev_aload_n (k0 := 0) rfl d_Owl_rest_0 ?_
  refine cw_iconst 0 d_Owl_rest_1 rfl ?_
  obtain ⟨μ1, e_μ1, h⟩ := nm_some h
  refine cv_put (.inl (.int 0)) 0 hG okC hv0 fl_Owl_9_4 rfl rfl okv_int d_Owl_rest_2 ?_
  intro G hG; rw [← e_μ1] at hG
  refine ev_aload_n (k0 := 0) rfl d_Owl_rest_5 ?_
  refine cw_iconst 0 d_Owl_rest_6 rfl ?_
  obtain ⟨μ2, e_μ2, h⟩ := nm_some h
  refine cv_put (.inl (.int 0)) 0 hG okC hv0 fl_Owl_15_4 rfl rfl okv_int d_Owl_rest_7 ?_
  intro G hG; rw [← e_μ2] at hG
  refine ev_aload_n (k0 := 0) rfl d_Owl_rest_10 ?_
  refine cw_iconst 0 d_Owl_rest_11 rfl ?_
  obtain ⟨μ3, e_μ3, h⟩ := nm_some h
  refine cv_put (.inl (.int 0)) 0 hG okC hv0 fl_Owl_24_4 rfl rfl (okv_bool rfl) d_Owl_rest_12 ?_
  intro G hG; rw [← e_μ3] at hG
  have hP := kE _ (Option.some.inj h).symm
  exact ev_return (st := []) rfl d_Owl_rest_15 (by rw [hP]; exact ⟨rfl, hG, rfl⟩)

/-- ProphecyShop$Shop.openWith -/
def s_Shop_openWith_20 (j0 : Nat) (j1 : Nat) (x2 : Int32) (μ : Mem) : Option ((Int32 × Mem) ⊕ (Mem)) :=
  if (8 : Int32) ≤ x2 then (some (.inr μ)) else (((f_Setup_firstCoinsOf j1 x2 μ)).bind (fun r1 => chk (inb x2 8) (nm (st3 μ 27 j0 x2.toNatClampNeg r1) (fun μ3 => some (.inl ((x2 + 1, μ3)))))))
def s_Shop_openWith_45 (j0 : Nat) (x2 : Int32) (μ : Mem) : Option ((Int32 × Mem) ⊕ (Mem)) :=
  if (5 : Int32) ≤ x2 then (some (.inr μ)) else (chk (inb x2 5) (((f_Owl_rest (5 * j0 + x2.toNatClampNeg) μ)).bind (fun r2 => some (.inl ((x2 + 1, r2))))))
def f_Shop_openWith (j0 : Nat) (j1 : Nat) (μ : Mem) : Option (Mem) :=
  nm (st3 μ 9 j0 0 (Int32.ofNat j1)) (fun μ1 => nm (st3 μ1 9 j0 1 0) (fun μ2 => nm (st3 μ2 9 j0 2 (μ2 7 j1 0)) (fun μ3 => (it (fun (s : Int32 × Mem) => s_Shop_openWith_20 j0 j1 s.1 s.2) LIM ((0, μ3))).bind (fun q4 => (it (fun (s : Int32 × Mem) => s_Shop_openWith_45 j0 s.1 s.2) LIM ((0, q4))).bind (fun q5 => nm (st3 q5 9 j0 5 0) (fun μ6 => nm (st3 μ6 9 j0 8 0) (fun μ7 => nm (st3 μ7 9 j0 12 0) (fun μ8 => nm (st3 μ8 9 j0 13 0) (fun μ9 => nm (st3 μ9 9 j0 14 0) (fun μ10 => some μ10))))))))))
set_option maxRecDepth 100000 in
set_option maxHeartbeats 4000000 in
theorem ws_Shop_openWith_20 {g : GL} {F G : RG} {nx mc ms : Nat} {Post : RO → RM → Prop} (d : Nat) {j0 : Nat} {j1 : Nat} {x2 : Int32} {μ : Mem} (hv0 : vc 9 j0) (hv1 : vc 7 j1)  {o : (Int32 × Mem) ⊕ (Mem)} (hG : LM vc 0 535 μ F G) (h : s_Shop_openWith_20 j0 j1 x2 μ = some o)
    (kC : ∀ s', o = .inl s' → ∀ G, LM vc 0 535 s'.2 F G → Ev g (d + 2) m_Shop_openWith 20 [some (.inr (0, off 9 j0)), some (.inr (0, off 7 j1)), some (.inl (.int s'.1))] [] (G, nx) mc ms Post)
    (kX : ∀ r, o = .inr r → ∀ G, LM vc 0 535 r F G → Ev g (d + 2) m_Shop_openWith 43 [some (.inr (0, off 9 j0)), none, none] [] (G, nx) mc ms Post)
    : Ev g (d + 2) m_Shop_openWith 20 [some (.inr (0, off 9 j0)), some (.inr (0, off 7 j1)), some (.inl (.int x2))] [] (G, nx) mc ms Post := by
  unfold s_Shop_openWith_20 at h
  refine ev_iload_n (k0 := 2) rfl d_Shop_openWith_20 ?_
  refine cw_bipush 8 d_Shop_openWith_21 rfl ?_
  refine ev_icmp_ge (tgt := 43) (by decide) d_Shop_openWith_23 (fun c => ?_) (fun c => ?_)
  · rw [if_pos c] at h
    exact Ev.sub (.s (.n (.n LSb.z))) (kX _ (Option.some.inj h).symm G hG)
  · rw [if_neg c] at h
    refine ev_aload_n (k0 := 0) rfl d_Shop_openWith_26 ?_
    refine cv_get9 (.inr (0, off 27 j0)) hG hv0 fg_Shop_18_9 rfl rfl d_Shop_openWith_27 ?_
    refine ev_iload_n (k0 := 2) rfl d_Shop_openWith_30 ?_
    refine ev_aload_n (k0 := 1) rfl d_Shop_openWith_31 ?_
    refine ev_iload_n (k0 := 2) rfl d_Shop_openWith_32 ?_
    obtain ⟨r1, hr1, h⟩ := bind_some9 h
    refine Ev.z9 ?_
    refine cv_V (d := d + 1) (mc1 := 0) (ms1 := 0) (mc := mc) (ms := ms) [.inl (.int x2)] hG hv1 rfl lk_Shop_70 (w_Setup_firstCoinsOf (d + 0) hv1 hG hr1) rfl rfl d_Shop_openWith_33 (aft_ro ?_)
    refine Ev.at (pc' := 36) rfl (Ev.cong (st' := [.inl (.int r1), .inl (.int x2), .inr (0, off 27 j0)]) ?_ rfl rfl)
    obtain ⟨b2, h⟩ := chk_some h
    obtain ⟨μ3, e_μ3, h⟩ := nm_some h
    refine cv_iast hG okC (tv_9_3 hv0) rfl rfl b2 rfl d_Shop_openWith_36 ?_
    intro G hG; rw [← e_μ3] at hG
    refine cw_iincN 2 1 [some (.inr (0, off 9 j0)), some (.inr (0, off 7 j1)), some (.inl (.int (x2 + 1)))] d_Shop_openWith_37 rfl rfl rfl rfl rfl ?_
    refine ev_goto (tgt := 20) (by decide) d_Shop_openWith_40 ?_
    exact kC _ (Option.some.inj h).symm G hG
set_option maxRecDepth 100000 in
set_option maxHeartbeats 4000000 in
theorem ws_Shop_openWith_45 {g : GL} {F G : RG} {nx mc ms : Nat} {Post : RO → RM → Prop} (d : Nat) {j0 : Nat} {x2 : Int32} {μ : Mem} (hv0 : vc 9 j0)  {o : (Int32 × Mem) ⊕ (Mem)} (hG : LM vc 0 535 μ F G) (h : s_Shop_openWith_45 j0 x2 μ = some o)
    (kC : ∀ s', o = .inl s' → ∀ G, LM vc 0 535 s'.2 F G → Ev g (d + 2) m_Shop_openWith 45 [some (.inr (0, off 9 j0)), none, some (.inl (.int s'.1))] [] (G, nx) mc ms Post)
    (kX : ∀ r, o = .inr r → ∀ G, LM vc 0 535 r F G → Ev g (d + 2) m_Shop_openWith 65 [some (.inr (0, off 9 j0)), none, none] [] (G, nx) mc ms Post)
    : Ev g (d + 2) m_Shop_openWith 45 [some (.inr (0, off 9 j0)), none, some (.inl (.int x2))] [] (G, nx) mc ms Post := by
  unfold s_Shop_openWith_45 at h
  refine ev_iload_n (k0 := 2) rfl d_Shop_openWith_45 ?_
  refine cw_iconst 5 d_Shop_openWith_46 rfl ?_
  refine ev_icmp_ge (tgt := 65) (by decide) d_Shop_openWith_47 (fun c => ?_) (fun c => ?_)
  · rw [if_pos c] at h
    exact Ev.sub (.s (.n (.n LSb.z))) (kX _ (Option.some.inj h).symm G hG)
  · rw [if_neg c] at h
    refine ev_aload_n (k0 := 0) rfl d_Shop_openWith_50 ?_
    refine cv_get9 (.inr (0, off 29 j0)) hG hv0 fg_Shop_33_9 rfl rfl d_Shop_openWith_51 ?_
    refine ev_iload_n (k0 := 2) rfl d_Shop_openWith_54 ?_
    obtain ⟨b1, h⟩ := chk_some h
    refine cv_aald (.inr (0, off 4 (5 * j0 + x2.toNatClampNeg))) hG (tv_9_6 hv0) rfl rfl rfl b1 rfl d_Shop_openWith_55 ?_
    obtain ⟨r2, hr2, h⟩ := bind_some9 h
    refine Ev.z9 ?_
    refine cv_V (d := d + 1) (mc1 := 0) (ms1 := 0) (mc := mc) (ms := ms) [] hG (ta_29 (tv_9_6 hv0) b1) rfl lk_Shop_74 (w_Owl_rest (d + 1) (ta_29 (tv_9_6 hv0) b1) hG hr2) rfl rfl d_Shop_openWith_56 (aft_rw (fun G hG => ?_))
    refine Ev.at (pc' := 59) rfl (Ev.cong (st' := []) ?_ rfl rfl)
    refine cw_iincN 2 1 [some (.inr (0, off 9 j0)), none, some (.inl (.int (x2 + 1)))] d_Shop_openWith_59 rfl rfl rfl rfl rfl ?_
    refine ev_goto (tgt := 45) (by decide) d_Shop_openWith_62 ?_
    exact kC _ (Option.some.inj h).symm G hG
set_option maxRecDepth 100000 in
set_option maxHeartbeats 4000000 in
theorem w_Shop_openWith {g : GL} {F G : RG} {nx : Nat} (d : Nat) {j0 : Nat} {j1 : Nat} {μ : Mem} (hv0 : vc 9 j0) (hv1 : vc 7 j1)  {o : Mem} (hG : LM vc 0 535 μ F G) (h : f_Shop_openWith j0 j1 μ = some o) : Mt g (d + 2) m_Shop_openWith [.inr (0, off 9 j0), .inr (0, off 7 j1)] (G, nx) 0 0 (pRW vc 0 535 rV o F nx) := by
  unfold f_Shop_openWith at h
  have kE : ∀ v, o = v → pRW vc 0 535 rV o F nx = pRW vc 0 535 rV v F nx := fun v e => by subst e; rfl
  refine Mt.of9 [some (.inr (0, off 9 j0)), some (.inr (0, off 7 j1)), none] (by decide +kernel) rfl rfl rfl rfl ?_
  refine ev_aload_n (k0 := 0) rfl d_Shop_openWith_0 ?_
  refine ev_aload_n (k0 := 1) rfl d_Shop_openWith_1 ?_
  obtain ⟨μ1, e_μ1, h⟩ := nm_some h
  refine cv_put (.inr (0, off 7 j1)) (Int32.ofNat j1) hG okC hv0 fl_Shop_61_9 rfl (fldx (Nat.lt_trans (show j1 < 2 from hv1) (by decide))) okv_obj d_Shop_openWith_2 ?_
  intro G hG; rw [← e_μ1] at hG
  refine ev_aload_n (k0 := 0) rfl d_Shop_openWith_5 ?_
  refine cw_iconst 0 d_Shop_openWith_6 rfl ?_
  obtain ⟨μ2, e_μ2, h⟩ := nm_some h
  refine cv_put (.inl (.int 0)) 0 hG okC hv0 fl_Shop_9_9 rfl rfl okv_int d_Shop_openWith_7 ?_
  intro G hG; rw [← e_μ2] at hG
  refine ev_aload_n (k0 := 0) rfl d_Shop_openWith_10 ?_
  refine ev_aload_n (k0 := 1) rfl d_Shop_openWith_11 ?_
  refine cv_get9 (.inl (.int (μ2 7 j1 0))) hG hv1 fg_Shop_67_7 rfl rfl d_Shop_openWith_12 ?_
  obtain ⟨μ3, e_μ3, h⟩ := nm_some h
  refine cv_put (.inl (.int (μ2 7 j1 0))) (μ2 7 j1 0) hG okC hv0 fl_Shop_15_9 rfl rfl okv_int d_Shop_openWith_15 ?_
  intro G hG; rw [← e_μ3] at hG
  refine cw_iconst 0 d_Shop_openWith_18 rfl ?_
  refine Ev.at (pc' := 19) rfl ?_
  refine cw_istoreN_n 2 0 rfl [some (.inr (0, off 9 j0)), some (.inr (0, off 7 j1)), some (.inl (.int 0))] d_Shop_openWith_19 rfl rfl rfl ?_
  obtain ⟨q4, hl, h⟩ := bind_some9 h
  refine it_ev (W := fun (s : Int32 × Mem) => ∀ G, LM vc 0 535 s.2 F G → Ev g (d + 2) m_Shop_openWith 20 [some (.inr (0, off 9 j0)), some (.inr (0, off 7 j1)), some (.inl (.int s.1))] [] (G, nx) 0 0 (pRW vc 0 535 rV o F nx)) (X := fun z => z = q4) rfl (fun s9 o9 hs kC9 kX9 => ?_) LIM _ hl G hG
  intro G hG
  refine ws_Shop_openWith_20 d hv0 hv1 hG hs kC9 (fun r_ e G hG => ?_)
  · obtain rfl := (kX9 _ e).symm
    refine cw_iconst 0 d_Shop_openWith_43 rfl ?_
    refine cw_istoreN_n 2 0 rfl [some (.inr (0, off 9 j0)), none, some (.inl (.int 0))] d_Shop_openWith_44 rfl rfl rfl ?_
    obtain ⟨q5, hl, h⟩ := bind_some9 h
    refine it_ev (W := fun (s : Int32 × Mem) => ∀ G, LM vc 0 535 s.2 F G → Ev g (d + 2) m_Shop_openWith 45 [some (.inr (0, off 9 j0)), none, some (.inl (.int s.1))] [] (G, nx) 0 0 (pRW vc 0 535 rV o F nx)) (X := fun z => z = q5) rfl (fun s9 o9 hs kC9 kX9 => ?_) LIM _ hl G hG
    intro G hG
    refine ws_Shop_openWith_45 d hv0 hG hs kC9 (fun r_ e G hG => ?_)
    · obtain rfl := (kX9 _ e).symm
      refine ev_aload_n (k0 := 0) rfl d_Shop_openWith_65 ?_
      refine cw_iconst 0 d_Shop_openWith_66 rfl ?_
      obtain ⟨μ6, e_μ6, h⟩ := nm_some h
      refine cv_put (.inl (.int 0)) 0 hG okC hv0 fl_Shop_28_9 rfl rfl okv_int d_Shop_openWith_67 ?_
      intro G hG; rw [← e_μ6] at hG
      refine ev_aload_n (k0 := 0) rfl d_Shop_openWith_70 ?_
      refine cw_iconst 0 d_Shop_openWith_71 rfl ?_
      obtain ⟨μ7, e_μ7, h⟩ := nm_some h
      refine cv_put (.inl (.int 0)) 0 hG okC hv0 fl_Shop_40_9 rfl rfl okv_int d_Shop_openWith_72 ?_
      intro G hG; rw [← e_μ7] at hG
      refine ev_aload_n (k0 := 0) rfl d_Shop_openWith_75 ?_
      refine cw_iconst 0 d_Shop_openWith_76 rfl ?_
      obtain ⟨μ8, e_μ8, h⟩ := nm_some h
      refine cv_put (.inl (.int 0)) 0 hG okC hv0 fl_Shop_52_9 rfl rfl okv_int d_Shop_openWith_77 ?_
      intro G hG; rw [← e_μ8] at hG
      refine ev_aload_n (k0 := 0) rfl d_Shop_openWith_80 ?_
      refine cw_iconst 0 d_Shop_openWith_81 rfl ?_
      refine Ev.at (pc' := 82) rfl ?_
      obtain ⟨μ9, e_μ9, h⟩ := nm_some h
      refine cv_put (.inl (.int 0)) 0 hG okC hv0 fl_Shop_55_9 rfl rfl okv_int d_Shop_openWith_82 ?_
      intro G hG; rw [← e_μ9] at hG
      refine ev_aload_n (k0 := 0) rfl d_Shop_openWith_85 ?_
      refine cw_iconst 0 d_Shop_openWith_86 rfl ?_
      obtain ⟨μ10, e_μ10, h⟩ := nm_some h
      refine cv_put (.inl (.int 0)) 0 hG okC hv0 fl_Shop_58_9 rfl rfl okv_int d_Shop_openWith_87 ?_
      intro G hG; rw [← e_μ10] at hG
      have hP := kE _ (Option.some.inj h).symm
      exact ev_return (st := []) rfl d_Shop_openWith_90 (by rw [hP]; exact ⟨rfl, hG, rfl⟩)

/-- ProphecyShop.openShop -/
def s_P_openShop_63 (x1 : Int32) (x3 : Int32) (μ : Mem) : Option ((Int32 × Mem) ⊕ (Mem)) :=
  if (2 : Int32) ≤ x3 then (some (.inr μ)) else (chk (inb x3 2) (nm (st3 μ 36 0 x3.toNatClampNeg 0) (fun μ2 => some (.inl ((x3 + 1, μ2))))))
def f_P_openShop  (μ : Mem) : Option (Int32 × Mem) :=
  chk (decide ((μ 12 0 4).toNatClampNeg < 2)) (((f_SetupReader_readInto ((μ 12 0 4).toNatClampNeg) μ)).bind (fun r2 => ((f_Text_shortenTo 0 r2.2)).bind (fun r3 => if r2.1 = 0 then (chk (decide ((r3 12 0 3).toNatClampNeg < 2)) (chk (decide ((r3 12 0 4).toNatClampNeg < 2)) (nm (st3 r3 12 0 3 (Int32.ofNat ((r3 12 0 4).toNatClampNeg))) (fun μ6 => nm (st3 μ6 12 0 4 (Int32.ofNat ((r3 12 0 3).toNatClampNeg))) (fun μ7 => chk (decide ((μ7 12 0 3).toNatClampNeg < 2)) (((f_Shop_openWith 0 ((μ7 12 0 3).toNatClampNeg) μ7)).bind (fun r9 => nm (st3 r9 2 0 1 0) (fun μ10 => (it (fun (s : Int32 × Mem) => s_P_openShop_63 r2.1 s.1 s.2) LIM ((0, μ10))).bind (fun q11 => some ((r2.1, q11))))))))))) else (some ((r2.1, r3))))))
set_option maxRecDepth 100000 in
set_option maxHeartbeats 4000000 in
theorem ws_P_openShop_63 {g : GL} {F G : RG} {nx mc ms : Nat} {Post : RO → RM → Prop} (d : Nat) {x1 : Int32} {x3 : Int32} {μ : Mem}  (hSG : SG g) {o : (Int32 × Mem) ⊕ (Mem)} (hG : LM vc 0 535 μ F G) (h : s_P_openShop_63 x1 x3 μ = some o)
    (kC : ∀ s', o = .inl s' → ∀ G, LM vc 0 535 s'.2 F G → Ev g (d + 8) m_P_openShop 63 [some (.inr (0, off 12 0)), some (.inl (.int x1)), none, some (.inl (.int s'.1))] [] (G, nx) mc ms Post)
    (kX : ∀ r, o = .inr r → ∀ G, LM vc 0 535 r F G → Ev g (d + 8) m_P_openShop 81 [none, some (.inl (.int x1)), none, none] [] (G, nx) mc ms Post)
    : Ev g (d + 8) m_P_openShop 63 [some (.inr (0, off 12 0)), some (.inl (.int x1)), none, some (.inl (.int x3))] [] (G, nx) mc ms Post := by
  unfold s_P_openShop_63 at h
  refine ev_iload_n (k0 := 3) rfl d_P_openShop_63 ?_
  refine cw_iconst 2 d_P_openShop_64 rfl ?_
  refine ev_icmp_ge (tgt := 81) (by decide) d_P_openShop_65 (fun c => ?_) (fun c => ?_)
  · rw [if_pos c] at h
    exact Ev.sub (.n (.s (.n (.n LSb.z)))) (kX _ (Option.some.inj h).symm G hG)
  · rw [if_neg c] at h
    refine ev_aload_n (k0 := 0) rfl d_P_openShop_68 ?_
    refine cv_get9 (.inr (0, off 36 0)) hG v_12 fg_ProphecyShop_65_12 rfl rfl d_P_openShop_69 ?_
    refine ev_iload_n (k0 := 3) rfl d_P_openShop_72 ?_
    refine cw_iconst 0 d_P_openShop_73 rfl ?_
    obtain ⟨b1, h⟩ := chk_some h
    obtain ⟨μ2, e_μ2, h⟩ := nm_some h
    refine cv_zast hG okC v_36 rfl rfl b1 rfl rfl d_P_openShop_74 ?_
    intro G hG; rw [← e_μ2] at hG
    refine cw_iincN 3 1 [some (.inr (0, off 12 0)), some (.inl (.int x1)), none, some (.inl (.int (x3 + 1)))] d_P_openShop_75 rfl rfl rfl rfl rfl ?_
    refine ev_goto (tgt := 63) (by decide) d_P_openShop_78 ?_
    exact kC _ (Option.some.inj h).symm G hG
set_option maxRecDepth 100000 in
set_option maxHeartbeats 4000000 in
theorem w_P_openShop {g : GL} {F G : RG} {nx : Nat} (d : Nat)  {μ : Mem}  (hSG : SG g) {o : Int32 × Mem} (hG : LM vc 0 535 μ F G) (h : f_P_openShop  μ = some o) : Mt g (d + 8) m_P_openShop [.inr (0, off 12 0)] (G, nx) 0 0 (pRW vc 0 535 (rI o.1) o.2 F nx) := by
  unfold f_P_openShop at h
  have kE : ∀ v, o = v → pRW vc 0 535 (rI o.1) o.2 F nx = pRW vc 0 535 (rI v.1) v.2 F nx := fun v e => by subst e; rfl
  refine Mt.of9 [some (.inr (0, off 12 0)), none, none, none] (by decide +kernel) rfl rfl rfl rfl ?_
  refine ev_aload_n (k0 := 0) rfl d_P_openShop_0 ?_
  refine cv_get9 (.inr (0, off 8 0)) hG v_12 fg_ProphecyShop_21_12 rfl rfl d_P_openShop_1 ?_
  refine ev_aload_n (k0 := 0) rfl d_P_openShop_4 ?_
  obtain ⟨b1, h⟩ := chk_some h
  refine cv_get9 (.inr (0, off 7 ((μ 12 0 4).toNatClampNeg))) hG v_12 fg_ProphecyShop_39_12 rfl rfl d_P_openShop_5 ?_
  obtain ⟨r2, hr2, h⟩ := bind_some9 h
  refine cv_V (d := d + 7) (mc1 := 0) (ms1 := 0) (mc := 0) (ms := 0) [.inr (0, off 7 ((μ 12 0 4).toNatClampNeg))] hG v_8 rfl lk_ProphecyShop_356 (w_SetupReader_readInto (d + 0) (show vc 7 _ from dlt9 b1) hSG hG hr2) rfl rfl d_P_openShop_8 (aft_rw (fun G hG => ?_))
  refine Ev.at (pc' := 11) rfl (Ev.cong (st' := [.inl (.int r2.1)]) ?_ rfl rfl)
  refine cw_istoreN_n 1 r2.1 rfl [some (.inr (0, off 12 0)), some (.inl (.int r2.1)), none, none] d_P_openShop_11 rfl rfl rfl ?_
  refine ev_aload_n (k0 := 0) rfl d_P_openShop_12 ?_
  refine cv_get9 (.inr (0, off 11 0)) hG v_12 fg_ProphecyShop_10_12 rfl rfl d_P_openShop_13 ?_
  refine cw_iconst 0 d_P_openShop_16 rfl ?_
  obtain ⟨r3, hr3, h⟩ := bind_some9 h
  refine cv_V (d := d + 7) (mc1 := 0) (ms1 := 0) (mc := 0) (ms := 0) [.inl (.int 0)] hG v_11 rfl lk_ProphecyShop_127 (w_Text_shortenTo (d + 7) hG hr3) rfl rfl d_P_openShop_17 (aft_rw (fun G hG => ?_))
  refine Ev.at (pc' := 20) rfl (Ev.cong (st' := []) ?_ rfl rfl)
  refine ev_iload_n (k0 := 1) rfl d_P_openShop_20 ?_
  refine ev_if_ne (tgt := 81) (by decide) d_P_openShop_21 (fun c => ?_) (fun c => ?_)
  · rw [if_neg c] at h
    refine ev_iload_n (k0 := 1) rfl d_P_openShop_81 ?_
    have hP := kE _ (Option.some.inj h).symm
    exact ev_ireturn (st := []) rfl rfl d_P_openShop_82 (by rw [hP]; exact ⟨rfl, hG, rfl⟩)
  · rw [if_pos c] at h
    refine ev_aload_n (k0 := 0) rfl d_P_openShop_24 ?_
    obtain ⟨b4, h⟩ := chk_some h
    refine cv_get9 (.inr (0, off 7 ((r3 12 0 3).toNatClampNeg))) hG v_12 fg_ProphecyShop_35_12 rfl rfl d_P_openShop_25 ?_
    refine cw_astoreN_n 2 [some (.inr (0, off 12 0)), some (.inl (.int r2.1)), some (.inr (0, off 7 ((r3 12 0 3).toNatClampNeg))), none] d_P_openShop_28 rfl rfl rfl ?_
    refine ev_aload_n (k0 := 0) rfl d_P_openShop_29 ?_
    refine ev_aload_n (k0 := 0) rfl d_P_openShop_30 ?_
    obtain ⟨b5, h⟩ := chk_some h
    refine cv_get9 (.inr (0, off 7 ((r3 12 0 4).toNatClampNeg))) hG v_12 fg_ProphecyShop_39_12 rfl rfl d_P_openShop_31 ?_
    obtain ⟨μ6, e_μ6, h⟩ := nm_some h
    refine cv_put (.inr (0, off 7 ((r3 12 0 4).toNatClampNeg))) (Int32.ofNat ((r3 12 0 4).toNatClampNeg)) hG okC v_12 fl_ProphecyShop_35_12 rfl (fldx (Nat.lt_trans (show (r3 12 0 4).toNatClampNeg < 2 from (show vc 7 _ from dlt9 b5)) (by decide))) okv_obj d_P_openShop_34 ?_
    intro G hG; rw [← e_μ6] at hG
    refine ev_aload_n (k0 := 0) rfl d_P_openShop_37 ?_
    refine ev_aload_n (k0 := 2) rfl d_P_openShop_38 ?_
    obtain ⟨μ7, e_μ7, h⟩ := nm_some h
    refine cv_put (.inr (0, off 7 ((r3 12 0 3).toNatClampNeg))) (Int32.ofNat ((r3 12 0 3).toNatClampNeg)) hG okC v_12 fl_ProphecyShop_39_12 rfl (fldx (Nat.lt_trans (show (r3 12 0 3).toNatClampNeg < 2 from (show vc 7 _ from dlt9 b4)) (by decide))) okv_obj d_P_openShop_39 ?_
    intro G hG; rw [← e_μ7] at hG
    refine ev_aload_n (k0 := 0) rfl d_P_openShop_42 ?_
    refine Ev.at (pc' := 43) rfl ?_
    refine cv_get9 (.inr (0, off 9 0)) hG v_12 fg_ProphecyShop_47_12 rfl rfl d_P_openShop_43 ?_
    refine ev_aload_n (k0 := 0) rfl d_P_openShop_46 ?_
    obtain ⟨b8, h⟩ := chk_some h
    refine cv_get9 (.inr (0, off 7 ((μ7 12 0 3).toNatClampNeg))) hG v_12 fg_ProphecyShop_35_12 rfl rfl d_P_openShop_47 ?_
    obtain ⟨r9, hr9, h⟩ := bind_some9 h
    refine cv_V (d := d + 7) (mc1 := 0) (ms1 := 0) (mc := 0) (ms := 0) [.inr (0, off 7 ((μ7 12 0 3).toNatClampNeg))] hG (show vc 9 0 from (by decide : 0 < 12)) rfl lk_ProphecyShop_359 (w_Shop_openWith (d + 5) (show vc 9 0 from (by decide : 0 < 12)) (show vc 7 _ from dlt9 b8) hG hr9) rfl rfl d_P_openShop_50 (aft_rw (fun G hG => ?_))
    refine Ev.at (pc' := 53) rfl (Ev.cong (st' := []) ?_ rfl rfl)
    refine ev_aload_n (k0 := 0) rfl d_P_openShop_53 ?_
    refine cv_get9 (.inr (0, off 2 0)) hG v_12 fg_ProphecyShop_57_12 rfl rfl d_P_openShop_54 ?_
    refine cw_iconst 0 d_P_openShop_57 rfl ?_
    obtain ⟨μ10, e_μ10, h⟩ := nm_some h
    refine cv_put (.inl (.int 0)) 0 hG okC v_2 fl_ProphecyShop_348_2 rfl rfl okv_int d_P_openShop_58 ?_
    intro G hG; rw [← e_μ10] at hG
    refine cw_iconst 0 d_P_openShop_61 rfl ?_
    refine cw_istoreN_n 3 0 rfl [some (.inr (0, off 12 0)), some (.inl (.int r2.1)), some (.inr (0, off 7 ((r3 12 0 3).toNatClampNeg))), some (.inl (.int 0))] d_P_openShop_62 rfl rfl rfl ?_
    obtain ⟨q11, hl, h⟩ := bind_some9 h
    refine Ev.sub (ls' := [some (.inr (0, off 12 0)), some (.inl (.int r2.1)), none, some (.inl (.int 0))]) (.s (.s (.n (.s LSb.z)))) ?_
    refine it_ev (W := fun (s : Int32 × Mem) => ∀ G, LM vc 0 535 s.2 F G → Ev g (d + 8) m_P_openShop 63 [some (.inr (0, off 12 0)), some (.inl (.int r2.1)), none, some (.inl (.int s.1))] [] (G, nx) 0 0 (pRW vc 0 535 (rI o.1) o.2 F nx)) (X := fun z => z = q11) rfl (fun s9 o9 hs kC9 kX9 => ?_) LIM _ hl G hG
    intro G hG
    refine ws_P_openShop_63 d hSG hG hs kC9 (fun r_ e G hG => ?_)
    · obtain rfl := (kX9 _ e).symm
      refine ev_iload_n (k0 := 1) rfl d_P_openShop_81 ?_
      have hP := kE _ (Option.some.inj h).symm
      exact ev_ireturn (st := []) rfl rfl d_P_openShop_82 (by rw [hP]; exact ⟨rfl, hG, rfl⟩)

/-- ProphecyShop.load -/
def f_P_load  (μ : Mem) : Option (Int32 × Mem) :=
  ((f_P_openShop μ)).bind (fun r1 => nm (st3 r1.2 12 0 10 r1.1) (fun μ2 => nm (st3 μ2 12 0 11 (μ2 8 0 5)) (fun μ3 => some ((r1.1, μ3)))))
set_option maxRecDepth 100000 in
set_option maxHeartbeats 4000000 in
theorem w_P_load {g : GL} {F G : RG} {nx : Nat} (d : Nat)  {μ : Mem}  (hSG : SG g) {o : Int32 × Mem} (hG : LM vc 0 535 μ F G) (h : f_P_load  μ = some o) : Mt g (d + 9) m_P_load [.inr (0, off 12 0)] (G, nx) 0 0 (pRW vc 0 535 (rI o.1) o.2 F nx) := by
  unfold f_P_load at h
  have kE : ∀ v, o = v → pRW vc 0 535 (rI o.1) o.2 F nx = pRW vc 0 535 (rI v.1) v.2 F nx := fun v e => by subst e; rfl
  refine Mt.of9 [some (.inr (0, off 12 0)), none] (by decide +kernel) rfl rfl rfl rfl ?_
  refine ev_aload_n (k0 := 0) rfl d_P_load_0 ?_
  obtain ⟨r1, hr1, h⟩ := bind_some9 h
  refine cv_V (d := d + 8) (mc1 := 0) (ms1 := 0) (mc := 0) (ms := 0) [] hG v_12 rfl lk_ProphecyShop_98 (w_P_openShop (d + 0) hSG hG hr1) rfl rfl d_P_load_1 (aft_rw (fun G hG => ?_))
  refine Ev.at (pc' := 4) rfl (Ev.cong (st' := [.inl (.int r1.1)]) ?_ rfl rfl)
  refine cw_istoreN_n 1 r1.1 rfl [some (.inr (0, off 12 0)), some (.inl (.int r1.1))] d_P_load_4 rfl rfl rfl ?_
  refine ev_aload_n (k0 := 0) rfl d_P_load_5 ?_
  refine ev_iload_n (k0 := 1) rfl d_P_load_6 ?_
  obtain ⟨μ2, e_μ2, h⟩ := nm_some h
  refine cv_put (.inl (.int r1.1)) r1.1 hG okC v_12 fl_ProphecyShop_69_12 rfl rfl okv_int d_P_load_7 ?_
  intro G hG; rw [← e_μ2] at hG
  refine ev_aload_n (k0 := 0) rfl d_P_load_10 ?_
  refine ev_aload_n (k0 := 0) rfl d_P_load_11 ?_
  refine cv_get9 (.inr (0, off 8 0)) hG v_12 fg_ProphecyShop_21_12 rfl rfl d_P_load_12 ?_
  refine cv_get9 (.inl (.int (μ2 8 0 5))) hG v_8 fg_ProphecyShop_130_8 rfl rfl d_P_load_15 ?_
  obtain ⟨μ3, e_μ3, h⟩ := nm_some h
  refine cv_put (.inl (.int (μ2 8 0 5))) (μ2 8 0 5) hG okC v_12 fl_ProphecyShop_73_12 rfl rfl okv_int d_P_load_18 ?_
  intro G hG; rw [← e_μ3] at hG
  refine ev_iload_n (k0 := 1) rfl d_P_load_21 ?_
  have hP := kE _ (Option.some.inj h).symm
  exact ev_ireturn (st := []) rfl rfl d_P_load_22 (by rw [hP]; exact ⟨rfl, hG, rfl⟩)

/-- ProphecyShop$Shop.sumOfPrices -/
def s_Shop_sumOfPrices_4 (j0 : Nat) (x1 : Int32) (x2 : Int32) (μ : Mem) : Option ((Int32 × Int32) ⊕ (Int32)) :=
  if (μ 9 j0 5) ≤ x2 then (some (.inr x1)) else (chk (inb x2 24) (nm (x1 + (μ 5 (24 * j0 + x2.toNatClampNeg) 6) : Int32) (fun v2 => some (.inl ((v2, x2 + 1))))))
def f_Shop_sumOfPrices (j0 : Nat) (μ : Mem) : Option (Int32) :=
  (it (fun (s : Int32 × Int32) => s_Shop_sumOfPrices_4 j0 s.1 s.2 μ) LIM ((0, 0))).bind (fun q1 => some q1)
set_option maxRecDepth 100000 in
set_option maxHeartbeats 4000000 in
theorem ws_Shop_sumOfPrices_4 {g : GL} {F G : RG} {nx mc ms : Nat} {Post : RO → RM → Prop} (d : Nat) {j0 : Nat} {x1 : Int32} {x2 : Int32} {μ : Mem} (hv0 : vc 9 j0)  {o : (Int32 × Int32) ⊕ (Int32)} (hG : LM vc 0 535 μ F G) (h : s_Shop_sumOfPrices_4 j0 x1 x2 μ = some o)
    (kC : ∀ s', o = .inl s' → Ev g (d + 0) m_Shop_sumOfPrices 4 [some (.inr (0, off 9 j0)), some (.inl (.int s'.1)), some (.inl (.int s'.2))] [] (G, nx) mc ms Post)
    (kX : ∀ r, o = .inr r → Ev g (d + 0) m_Shop_sumOfPrices 30 [none, some (.inl (.int r)), none] [] (G, nx) mc ms Post)
    : Ev g (d + 0) m_Shop_sumOfPrices 4 [some (.inr (0, off 9 j0)), some (.inl (.int x1)), some (.inl (.int x2))] [] (G, nx) mc ms Post := by
  unfold s_Shop_sumOfPrices_4 at h
  refine ev_iload_n (k0 := 2) rfl d_Shop_sumOfPrices_4 ?_
  refine ev_aload_n (k0 := 0) rfl d_Shop_sumOfPrices_5 ?_
  refine cv_get9 (.inl (.int (μ 9 j0 5))) hG hv0 fg_Shop_28_9 rfl rfl d_Shop_sumOfPrices_6 ?_
  refine ev_icmp_ge (tgt := 30) (by decide) d_Shop_sumOfPrices_9 (fun c => ?_) (fun c => ?_)
  · rw [if_pos c] at h
    exact Ev.sub (.n (.s (.n LSb.z))) (kX _ (Option.some.inj h).symm)
  · rw [if_neg c] at h
    refine ev_iload_n (k0 := 1) rfl d_Shop_sumOfPrices_12 ?_
    refine ev_aload_n (k0 := 0) rfl d_Shop_sumOfPrices_13 ?_
    refine cv_get9 (.inr (0, off 28 j0)) hG hv0 fg_Shop_24_9 rfl rfl d_Shop_sumOfPrices_14 ?_
    refine ev_iload_n (k0 := 2) rfl d_Shop_sumOfPrices_17 ?_
    obtain ⟨b1, h⟩ := chk_some h
    refine cv_aald (.inr (0, off 5 (24 * j0 + x2.toNatClampNeg))) hG (tv_9_4 hv0) rfl rfl rfl b1 rfl d_Shop_sumOfPrices_18 ?_
    refine cv_get9 (.inl (.int (μ 5 (24 * j0 + x2.toNatClampNeg) 6))) hG (ta_28 (tv_9_4 hv0) b1) fg_Shop_134_5 rfl rfl d_Shop_sumOfPrices_19 ?_
    refine ev_iadd d_Shop_sumOfPrices_22 ?_
    obtain ⟨v2, e_v2, h⟩ := nm_some h
    refine cw_istoreN_n 1 v2 e_v2 [some (.inr (0, off 9 j0)), some (.inl (.int v2)), some (.inl (.int x2))] d_Shop_sumOfPrices_23 rfl rfl rfl ?_
    refine cw_iincN 2 1 [some (.inr (0, off 9 j0)), some (.inl (.int v2)), some (.inl (.int (x2 + 1)))] d_Shop_sumOfPrices_24 rfl rfl rfl rfl rfl ?_
    refine ev_goto (tgt := 4) (by decide) d_Shop_sumOfPrices_27 ?_
    exact kC _ (Option.some.inj h).symm
set_option maxRecDepth 100000 in
set_option maxHeartbeats 4000000 in
theorem w_Shop_sumOfPrices {g : GL} {F G : RG} {nx : Nat} (d : Nat) {j0 : Nat} {μ : Mem} (hv0 : vc 9 j0)  {o : Int32} (hG : LM vc 0 535 μ F G) (h : f_Shop_sumOfPrices j0 μ = some o) : Mt g (d + 0) m_Shop_sumOfPrices [.inr (0, off 9 j0)] (G, nx) 0 0 (pRO (rI o) (G, nx)) := by
  unfold f_Shop_sumOfPrices at h
  have kE : ∀ v, o = v → pRO (rI o) (G, nx) = pRO (rI v) (G, nx) := fun v e => by subst e; rfl
  refine Mt.of9 [some (.inr (0, off 9 j0)), none, none] (by decide +kernel) rfl rfl rfl rfl ?_
  refine cw_iconst 0 d_Shop_sumOfPrices_0 rfl ?_
  refine cw_istoreN_n 1 0 rfl [some (.inr (0, off 9 j0)), some (.inl (.int 0)), none] d_Shop_sumOfPrices_1 rfl rfl rfl ?_
  refine cw_iconst 0 d_Shop_sumOfPrices_2 rfl ?_
  refine cw_istoreN_n 2 0 rfl [some (.inr (0, off 9 j0)), some (.inl (.int 0)), some (.inl (.int 0))] d_Shop_sumOfPrices_3 rfl rfl rfl ?_
  obtain ⟨q1, hl, h⟩ := bind_some9 h
  refine it_ev (W := fun (s : Int32 × Int32) => Ev g (d + 0) m_Shop_sumOfPrices 4 [some (.inr (0, off 9 j0)), some (.inl (.int s.1)), some (.inl (.int s.2))] [] (G, nx) 0 0 (pRO (rI o) (G, nx))) (X := fun z => z = q1) rfl (fun s9 o9 hs kC9 kX9 => ?_) LIM _ hl
  refine ws_Shop_sumOfPrices_4 d hv0 hG hs kC9 (fun r_ e => ?_)
  · obtain rfl := (kX9 _ e).symm
    refine ev_iload_n (k0 := 1) rfl d_Shop_sumOfPrices_30 ?_
    have hP := kE _ (Option.some.inj h).symm
    exact ev_ireturn (st := []) rfl rfl d_Shop_sumOfPrices_31 (by rw [hP]; exact ⟨rfl, rfl⟩)

/-- ProphecyShop.meanPrice -/
def f_P_meanPrice  (μ : Mem) : Option (UInt64) :=
  nm (μ 9 0 5 : Int32) (fun v1 => if v1 = 0 then some FP.dconst0 else (((f_Shop_sumOfPrices 0 μ)).bind (fun r2 => chk (okD9 (FP.ddiv (FP.i2d r2) (FP.i2d v1))) (some (FP.ddiv (FP.i2d r2) (FP.i2d v1))))))
set_option maxRecDepth 100000 in
set_option maxHeartbeats 4000000 in
theorem w_P_meanPrice {g : GL} {F G : RG} {nx : Nat} (d : Nat)  {μ : Mem}   {o : UInt64} (hG : LM vc 0 535 μ F G) (h : f_P_meanPrice  μ = some o) : Mt g (d + 1) m_P_meanPrice [.inr (0, off 12 0)] (G, nx) 0 0 (pRO (rD o) (G, nx)) := by
  unfold f_P_meanPrice at h
  have kE : ∀ v, o = v → pRO (rD o) (G, nx) = pRO (rD v) (G, nx) := fun v e => by subst e; rfl
  refine Mt.of9 [some (.inr (0, off 12 0)), none] (by decide +kernel) rfl rfl rfl rfl ?_
  refine ev_aload_n (k0 := 0) rfl d_P_meanPrice_0 ?_
  refine cv_get9 (.inr (0, off 9 0)) hG v_12 fg_ProphecyShop_47_12 rfl rfl d_P_meanPrice_1 ?_
  refine cv_get9 (.inl (.int (μ 9 0 5))) hG (show vc 9 0 from (by decide : 0 < 12)) fg_ProphecyShop_195_9 rfl rfl d_P_meanPrice_4 ?_
  obtain ⟨v1, e_v1, h⟩ := nm_some h
  refine cw_istoreN_n 1 v1 e_v1 [some (.inr (0, off 12 0)), some (.inl (.int v1))] d_P_meanPrice_7 rfl rfl rfl ?_
  refine ev_iload_n (k0 := 1) rfl d_P_meanPrice_8 ?_
  refine ev_if_ne (tgt := 16) (by decide) d_P_meanPrice_9 (fun c => ?_) (fun c => ?_)
  · rw [if_neg c] at h
    refine ev_aload_n (k0 := 0) rfl d_P_meanPrice_16 ?_
    refine cv_get9 (.inr (0, off 9 0)) hG v_12 fg_ProphecyShop_47_12 rfl rfl d_P_meanPrice_17 ?_
    obtain ⟨r2, hr2, h⟩ := bind_some9 h
    refine cv_V (d := d + 0) (mc1 := 0) (ms1 := 0) (mc := 0) (ms := 0) [] hG (show vc 9 0 from (by decide : 0 < 12)) rfl lk_ProphecyShop_278 (w_Shop_sumOfPrices (d + 0) (show vc 9 0 from (by decide : 0 < 12)) hG hr2) rfl rfl d_P_meanPrice_20 (aft_ro ?_)
    refine Ev.at (pc' := 23) rfl (Ev.cong (st' := [.inl (.int r2)]) ?_ rfl rfl)
    refine ev_i2d d_P_meanPrice_23 ?_
    refine ev_iload_n (k0 := 1) rfl d_P_meanPrice_24 ?_
    refine ev_i2d d_P_meanPrice_25 ?_
    obtain ⟨b3, h⟩ := chk_some h
    refine ev_ddiv (okD9_n b3) d_P_meanPrice_26 ?_
    have hP := kE _ (Option.some.inj h).symm
    exact ev_dreturn (st := []) rfl d_P_meanPrice_27 (by rw [hP]; exact ⟨rfl, rfl⟩)
  · rw [if_pos c] at h
    refine ev_dconst0 d_P_meanPrice_12 ?_
    refine ev_goto (tgt := 27) (by decide) d_P_meanPrice_13 ?_
    have hP := kE _ (Option.some.inj h).symm
    exact ev_dreturn (st := []) rfl d_P_meanPrice_27 (by rw [hP]; exact ⟨rfl, rfl⟩)

/-- ProphecyShop.owlCoins -/
def f_P_owlCoins (x1 : Int32) (μ : Mem) : Option (Int32) :=
  ((if x1 < 0 then (some (0)) else (chk (decide ((μ 12 0 3).toNatClampNeg < 2)) (if (μ 7 ((μ 12 0 3).toNatClampNeg) 11) ≤ x1 then (some (0)) else (some (1)))) : Option (Int32))).bind (fun q1 => ((f_P_throwIfMissing q1 μ)).bind (fun r2 => ((f_Shop_owlWith 0 x1 μ)).bind (fun r3 => chk (decide (r3 < 60)) (some (μ 4 r3 1)))))
set_option maxRecDepth 100000 in
set_option maxHeartbeats 4000000 in
theorem w_P_owlCoins {g : GL} {F G : RG} {nx : Nat} (d : Nat) {x1 : Int32} {μ : Mem}   {o : Int32} (hG : LM vc 0 535 μ F G) (h : f_P_owlCoins x1 μ = some o) : Mt g (d + 1) m_P_owlCoins [.inr (0, off 12 0), .inl (.int x1)] (G, nx) 0 0 (pRO (rI o) (G, nx)) := by
  unfold f_P_owlCoins at h
  have kE : ∀ v, o = v → pRO (rI o) (G, nx) = pRO (rI v) (G, nx) := fun v e => by subst e; rfl
  refine Mt.of9 [some (.inr (0, off 12 0)), some (.inl (.int x1))] (by decide +kernel) rfl rfl rfl rfl ?_
  refine ev_iload_n (k0 := 1) rfl d_P_owlCoins_0 ?_
  obtain ⟨q1, hj, h⟩ := bind_some9 h
  have K_q1 : Ev g (d + 1) m_P_owlCoins 20 [some (.inr (0, off 12 0)), some (.inl (.int x1))] [.inl (.int q1)] (G, nx) 0 0 (pRO (rI o) (G, nx)) := by
    obtain ⟨r2, hr2, h⟩ := bind_some9 h
    refine cw_S (d := d + 0) (mc1 := 0) (ms1 := 0) (mc := 0) (ms := 0) [.inl (.int q1)] lk_ProphecyShop_178 (w_P_throwIfMissing (d + 0) hG hr2) rfl rfl d_P_owlCoins_20 (aft_ro ?_)
    refine Ev.at (pc' := 23) rfl (Ev.cong (st' := []) ?_ rfl rfl)
    refine ev_aload_n (k0 := 0) rfl d_P_owlCoins_23 ?_
    refine cv_get9 (.inr (0, off 9 0)) hG v_12 fg_ProphecyShop_47_12 rfl rfl d_P_owlCoins_24 ?_
    refine ev_iload_n (k0 := 1) rfl d_P_owlCoins_27 ?_
    obtain ⟨r3, hr3, h⟩ := bind_some9 h
    refine cv_V (d := d + 0) (mc1 := 0) (ms1 := 0) (mc := 0) (ms := 0) [.inl (.int x1)] hG (show vc 9 0 from (by decide : 0 < 12)) rfl lk_ProphecyShop_255 (w_Shop_owlWith (d + 0) (show vc 9 0 from (by decide : 0 < 12)) hG hr3) rfl rfl d_P_owlCoins_28 (aft_ro ?_)
    obtain ⟨b4, h⟩ := chk_some h
    refine Ev.at (pc' := 31) rfl (Ev.cong (st' := [.inr (0, off 4 r3)]) ?_ rfl rfl)
    refine cv_get9 (.inl (.int (μ 4 r3 1))) hG (show vc 4 _ from dlt9 b4) fg_ProphecyShop_264_4 rfl rfl d_P_owlCoins_31 ?_
    have hP := kE _ (Option.some.inj h).symm
    exact ev_ireturn (st := []) rfl rfl d_P_owlCoins_34 (by rw [hP]; exact ⟨rfl, rfl⟩)
  clear h
  have h := hj
  refine ev_if_lt (tgt := 19) (by decide) d_P_owlCoins_1 (fun c => ?_) (fun c => ?_)
  · rw [if_pos c] at h
    refine cw_iconst 0 d_P_owlCoins_19 rfl ?_
    obtain rfl := Option.some.inj h
    exact K_q1
  · rw [if_neg c] at h
    refine ev_iload_n (k0 := 1) rfl d_P_owlCoins_4 ?_
    refine ev_aload_n (k0 := 0) rfl d_P_owlCoins_5 ?_
    obtain ⟨b5, h⟩ := chk_some h
    refine cv_get9 (.inr (0, off 7 ((μ 12 0 3).toNatClampNeg))) hG v_12 fg_ProphecyShop_35_12 rfl rfl d_P_owlCoins_6 ?_
    refine cv_get9 (.inl (.int (μ 7 ((μ 12 0 3).toNatClampNeg) 11))) hG (show vc 7 _ from dlt9 b5) fg_ProphecyShop_252_7 rfl rfl d_P_owlCoins_9 ?_
    refine ev_icmp_ge (tgt := 19) (by decide) d_P_owlCoins_12 (fun c => ?_) (fun c => ?_)
    · rw [if_pos c] at h
      refine cw_iconst 0 d_P_owlCoins_19 rfl ?_
      obtain rfl := Option.some.inj h
      exact K_q1
    · rw [if_neg c] at h
      refine cw_iconst 1 d_P_owlCoins_15 rfl ?_
      refine ev_goto (tgt := 20) (by decide) d_P_owlCoins_16 ?_
      obtain rfl := Option.some.inj h
      exact K_q1

/-- ProphecyShop.owlDays -/
def f_P_owlDays (x1 : Int32) (μ : Mem) : Option (Int32) :=
  ((if x1 < 0 then (some (0)) else (chk (decide ((μ 12 0 3).toNatClampNeg < 2)) (if (μ 7 ((μ 12 0 3).toNatClampNeg) 11) ≤ x1 then (some (0)) else (some (1)))) : Option (Int32))).bind (fun q1 => ((f_P_throwIfMissing q1 μ)).bind (fun r2 => ((f_Shop_owlWith 0 x1 μ)).bind (fun r3 => chk (decide (r3 < 60)) (some (μ 4 r3 0)))))
set_option maxRecDepth 100000 in
set_option maxHeartbeats 4000000 in
theorem w_P_owlDays {g : GL} {F G : RG} {nx : Nat} (d : Nat) {x1 : Int32} {μ : Mem}   {o : Int32} (hG : LM vc 0 535 μ F G) (h : f_P_owlDays x1 μ = some o) : Mt g (d + 1) m_P_owlDays [.inr (0, off 12 0), .inl (.int x1)] (G, nx) 0 0 (pRO (rI o) (G, nx)) := by
  unfold f_P_owlDays at h
  have kE : ∀ v, o = v → pRO (rI o) (G, nx) = pRO (rI v) (G, nx) := fun v e => by subst e; rfl
  refine Mt.of9 [some (.inr (0, off 12 0)), some (.inl (.int x1))] (by decide +kernel) rfl rfl rfl rfl ?_
  refine ev_iload_n (k0 := 1) rfl d_P_owlDays_0 ?_
  obtain ⟨q1, hj, h⟩ := bind_some9 h
  have K_q1 : Ev g (d + 1) m_P_owlDays 20 [some (.inr (0, off 12 0)), some (.inl (.int x1))] [.inl (.int q1)] (G, nx) 0 0 (pRO (rI o) (G, nx)) := by
    obtain ⟨r2, hr2, h⟩ := bind_some9 h
    refine cw_S (d := d + 0) (mc1 := 0) (ms1 := 0) (mc := 0) (ms := 0) [.inl (.int q1)] lk_ProphecyShop_178 (w_P_throwIfMissing (d + 0) hG hr2) rfl rfl d_P_owlDays_20 (aft_ro ?_)
    refine Ev.at (pc' := 23) rfl (Ev.cong (st' := []) ?_ rfl rfl)
    refine ev_aload_n (k0 := 0) rfl d_P_owlDays_23 ?_
    refine cv_get9 (.inr (0, off 9 0)) hG v_12 fg_ProphecyShop_47_12 rfl rfl d_P_owlDays_24 ?_
    refine ev_iload_n (k0 := 1) rfl d_P_owlDays_27 ?_
    obtain ⟨r3, hr3, h⟩ := bind_some9 h
    refine cv_V (d := d + 0) (mc1 := 0) (ms1 := 0) (mc := 0) (ms := 0) [.inl (.int x1)] hG (show vc 9 0 from (by decide : 0 < 12)) rfl lk_ProphecyShop_255 (w_Shop_owlWith (d + 0) (show vc 9 0 from (by decide : 0 < 12)) hG hr3) rfl rfl d_P_owlDays_28 (aft_ro ?_)
    obtain ⟨b4, h⟩ := chk_some h
    refine Ev.at (pc' := 31) rfl (Ev.cong (st' := [.inr (0, off 4 r3)]) ?_ rfl rfl)
    refine cv_get9 (.inl (.int (μ 4 r3 0))) hG (show vc 4 _ from dlt9 b4) fg_ProphecyShop_259_4 rfl rfl d_P_owlDays_31 ?_
    have hP := kE _ (Option.some.inj h).symm
    exact ev_ireturn (st := []) rfl rfl d_P_owlDays_34 (by rw [hP]; exact ⟨rfl, rfl⟩)
  clear h
  have h := hj
  refine ev_if_lt (tgt := 19) (by decide) d_P_owlDays_1 (fun c => ?_) (fun c => ?_)
  · rw [if_pos c] at h
    refine cw_iconst 0 d_P_owlDays_19 rfl ?_
    obtain rfl := Option.some.inj h
    exact K_q1
  · rw [if_neg c] at h
    refine ev_iload_n (k0 := 1) rfl d_P_owlDays_4 ?_
    refine ev_aload_n (k0 := 0) rfl d_P_owlDays_5 ?_
    obtain ⟨b5, h⟩ := chk_some h
    refine cv_get9 (.inr (0, off 7 ((μ 12 0 3).toNatClampNeg))) hG v_12 fg_ProphecyShop_35_12 rfl rfl d_P_owlDays_6 ?_
    refine cv_get9 (.inl (.int (μ 7 ((μ 12 0 3).toNatClampNeg) 11))) hG (show vc 7 _ from dlt9 b5) fg_ProphecyShop_252_7 rfl rfl d_P_owlDays_9 ?_
    refine ev_icmp_ge (tgt := 19) (by decide) d_P_owlDays_12 (fun c => ?_) (fun c => ?_)
    · rw [if_pos c] at h
      refine cw_iconst 0 d_P_owlDays_19 rfl ?_
      obtain rfl := Option.some.inj h
      exact K_q1
    · rw [if_neg c] at h
      refine cw_iconst 1 d_P_owlDays_15 rfl ?_
      refine ev_goto (tgt := 20) (by decide) d_P_owlDays_16 ?_
      obtain rfl := Option.some.inj h
      exact K_q1

/-- ProphecyShop.placeCount -/
def f_P_placeCount  (μ : Mem) : Option (Int32) :=
  chk (decide ((μ 12 0 3).toNatClampNeg < 2)) (some (μ 3 (3 * ((μ 12 0 3).toNatClampNeg) + 1) 1))
set_option maxRecDepth 100000 in
set_option maxHeartbeats 4000000 in
theorem w_P_placeCount {g : GL} {F G : RG} {nx : Nat} (d : Nat)  {μ : Mem}   {o : Int32} (hG : LM vc 0 535 μ F G) (h : f_P_placeCount  μ = some o) : Mt g (d + 0) m_P_placeCount [.inr (0, off 12 0)] (G, nx) 0 0 (pRO (rI o) (G, nx)) := by
  unfold f_P_placeCount at h
  have kE : ∀ v, o = v → pRO (rI o) (G, nx) = pRO (rI v) (G, nx) := fun v e => by subst e; rfl
  refine Mt.of9 [some (.inr (0, off 12 0))] (by decide +kernel) rfl rfl rfl rfl ?_
  refine ev_aload_n (k0 := 0) rfl d_P_placeCount_0 ?_
  obtain ⟨b1, h⟩ := chk_some h
  refine cv_get9 (.inr (0, off 7 ((μ 12 0 3).toNatClampNeg))) hG v_12 fg_ProphecyShop_35_12 rfl rfl d_P_placeCount_1 ?_
  refine cv_get9 (.inr (0, off 3 (3 * ((μ 12 0 3).toNatClampNeg) + 1))) hG (show vc 7 _ from dlt9 b1) fg_ProphecyShop_161_7 rfl rfl d_P_placeCount_4 ?_
  refine cv_get9 (.inl (.int (μ 3 (3 * ((μ 12 0 3).toNatClampNeg) + 1) 1))) hG (tv_7_6 (show vc 7 _ from dlt9 b1)) fg_ProphecyShop_156_3 rfl rfl d_P_placeCount_7 ?_
  have hP := kE _ (Option.some.inj h).symm
  exact ev_ireturn (st := []) rfl rfl d_P_placeCount_10 (by rw [hP]; exact ⟨rfl, rfl⟩)

/-- ProphecyShop.placeInQueue -/
def f_P_placeInQueue (x1 : Int32) (μ : Mem) : Option (Int32) :=
  ((f_Shop_hasSold 0 x1 μ)).bind (fun r1 => ((f_P_throwIfMissing r1 μ)).bind (fun r2 => ((f_Shop_requestsBefore 0 x1 μ)).bind (fun r3 => some r3)))
set_option maxRecDepth 100000 in
set_option maxHeartbeats 4000000 in
theorem w_P_placeInQueue {g : GL} {F G : RG} {nx : Nat} (d : Nat) {x1 : Int32} {μ : Mem}   {o : Int32} (hG : LM vc 0 535 μ F G) (h : f_P_placeInQueue x1 μ = some o) : Mt g (d + 1) m_P_placeInQueue [.inr (0, off 12 0), .inl (.int x1)] (G, nx) 0 0 (pRO (rI o) (G, nx)) := by
  unfold f_P_placeInQueue at h
  have kE : ∀ v, o = v → pRO (rI o) (G, nx) = pRO (rI v) (G, nx) := fun v e => by subst e; rfl
  refine Mt.of9 [some (.inr (0, off 12 0)), some (.inl (.int x1))] (by decide +kernel) rfl rfl rfl rfl ?_
  refine ev_aload_n (k0 := 0) rfl d_P_placeInQueue_0 ?_
  refine cv_get9 (.inr (0, off 9 0)) hG v_12 fg_ProphecyShop_47_12 rfl rfl d_P_placeInQueue_1 ?_
  refine ev_iload_n (k0 := 1) rfl d_P_placeInQueue_4 ?_
  obtain ⟨r1, hr1, h⟩ := bind_some9 h
  refine cv_V (d := d + 0) (mc1 := 0) (ms1 := 0) (mc := 0) (ms := 0) [.inl (.int x1)] hG (show vc 9 0 from (by decide : 0 < 12)) rfl lk_ProphecyShop_240 (w_Shop_hasSold (d + 0) (show vc 9 0 from (by decide : 0 < 12)) hG hr1) rfl rfl d_P_placeInQueue_5 (aft_ro ?_)
  refine Ev.at (pc' := 8) rfl (Ev.cong (st' := [.inl (.int r1)]) ?_ rfl rfl)
  obtain ⟨r2, hr2, h⟩ := bind_some9 h
  refine cw_S (d := d + 0) (mc1 := 0) (ms1 := 0) (mc := 0) (ms := 0) [.inl (.int r1)] lk_ProphecyShop_178 (w_P_throwIfMissing (d + 0) hG hr2) rfl rfl d_P_placeInQueue_8 (aft_ro ?_)
  refine Ev.at (pc' := 11) rfl (Ev.cong (st' := []) ?_ rfl rfl)
  refine ev_aload_n (k0 := 0) rfl d_P_placeInQueue_11 ?_
  refine cv_get9 (.inr (0, off 9 0)) hG v_12 fg_ProphecyShop_47_12 rfl rfl d_P_placeInQueue_12 ?_
  refine ev_iload_n (k0 := 1) rfl d_P_placeInQueue_15 ?_
  obtain ⟨r3, hr3, h⟩ := bind_some9 h
  refine cv_V (d := d + 0) (mc1 := 0) (ms1 := 0) (mc := 0) (ms := 0) [.inl (.int x1)] hG (show vc 9 0 from (by decide : 0 < 12)) rfl lk_ProphecyShop_243 (w_Shop_requestsBefore (d + 0) (show vc 9 0 from (by decide : 0 < 12)) hG hr3) rfl rfl d_P_placeInQueue_16 (aft_ro ?_)
  refine Ev.at (pc' := 19) rfl (Ev.cong (st' := [.inl (.int r3)]) ?_ rfl rfl)
  have hP := kE _ (Option.some.inj h).symm
  exact ev_ireturn (st := []) rfl rfl d_P_placeInQueue_19 (by rw [hP]; exact ⟨rfl, rfl⟩)

/-- ProphecyShop.placeOf -/
def f_P_placeOf (x1 : Int32) (μ : Mem) : Option (Int32) :=
  ((f_P_prophecyWith x1 μ)).bind (fun r1 => chk (decide (r1 < 288)) (some (μ 5 r1 3)))
set_option maxRecDepth 100000 in
set_option maxHeartbeats 4000000 in
theorem w_P_placeOf {g : GL} {F G : RG} {nx : Nat} (d : Nat) {x1 : Int32} {μ : Mem}   {o : Int32} (hG : LM vc 0 535 μ F G) (h : f_P_placeOf x1 μ = some o) : Mt g (d + 3) m_P_placeOf [.inr (0, off 12 0), .inl (.int x1)] (G, nx) 0 0 (pRO (rI o) (G, nx)) := by
  unfold f_P_placeOf at h
  have kE : ∀ v, o = v → pRO (rI o) (G, nx) = pRO (rI v) (G, nx) := fun v e => by subst e; rfl
  refine Mt.of9 [some (.inr (0, off 12 0)), some (.inl (.int x1))] (by decide +kernel) rfl rfl rfl rfl ?_
  refine ev_aload_n (k0 := 0) rfl d_P_placeOf_0 ?_
  refine ev_iload_n (k0 := 1) rfl d_P_placeOf_1 ?_
  obtain ⟨r1, hr1, h⟩ := bind_some9 h
  refine cv_V (d := d + 2) (mc1 := 0) (ms1 := 0) (mc := 0) (ms := 0) [.inl (.int x1)] hG v_12 rfl lk_ProphecyShop_198 (w_P_prophecyWith (d + 0) hG hr1) rfl rfl d_P_placeOf_2 (aft_ro ?_)
  obtain ⟨b2, h⟩ := chk_some h
  refine Ev.at (pc' := 5) rfl (Ev.cong (st' := [.inr (0, off 5 r1)]) ?_ rfl rfl)
  refine cv_get9 (.inl (.int (μ 5 r1 3))) hG (show vc 5 _ from dlt9 b2) fg_ProphecyShop_210_5 rfl rfl d_P_placeOf_5 ?_
  have hP := kE _ (Option.some.inj h).symm
  exact ev_ireturn (st := []) rfl rfl d_P_placeOf_8 (by rw [hP]; exact ⟨rfl, rfl⟩)

/-- ProphecyShop.prophecyCount -/
def f_P_prophecyCount  (μ : Mem) : Option (Int32) :=
  some (μ 9 0 5)
set_option maxRecDepth 100000 in
set_option maxHeartbeats 4000000 in
theorem w_P_prophecyCount {g : GL} {F G : RG} {nx : Nat} (d : Nat)  {μ : Mem}   {o : Int32} (hG : LM vc 0 535 μ F G) (h : f_P_prophecyCount  μ = some o) : Mt g (d + 0) m_P_prophecyCount [.inr (0, off 12 0)] (G, nx) 0 0 (pRO (rI o) (G, nx)) := by
  unfold f_P_prophecyCount at h
  have kE : ∀ v, o = v → pRO (rI o) (G, nx) = pRO (rI v) (G, nx) := fun v e => by subst e; rfl
  refine Mt.of9 [some (.inr (0, off 12 0))] (by decide +kernel) rfl rfl rfl rfl ?_
  refine ev_aload_n (k0 := 0) rfl d_P_prophecyCount_0 ?_
  refine cv_get9 (.inr (0, off 9 0)) hG v_12 fg_ProphecyShop_47_12 rfl rfl d_P_prophecyCount_1 ?_
  refine cv_get9 (.inl (.int (μ 9 0 5))) hG (show vc 9 0 from (by decide : 0 < 12)) fg_ProphecyShop_195_9 rfl rfl d_P_prophecyCount_4 ?_
  have hP := kE _ (Option.some.inj h).symm
  exact ev_ireturn (st := []) rfl rfl d_P_prophecyCount_7 (by rw [hP]; exact ⟨rfl, rfl⟩)

/-- ProphecyShop$Shop.coinsOf -/
def f_Shop_coinsOf (j0 : Nat) (x1 : Int32) (μ : Mem) : Option (Int32) :=
  if x1 < 0 then some 0 else (if (8 : Int32) ≤ x1 then some 0 else (chk (inb x1 8) (some (μ 27 j0 x1.toNatClampNeg))))
set_option maxRecDepth 100000 in
set_option maxHeartbeats 4000000 in
theorem w_Shop_coinsOf {g : GL} {F G : RG} {nx : Nat} (d : Nat) {j0 : Nat} {x1 : Int32} {μ : Mem} (hv0 : vc 9 j0)  {o : Int32} (hG : LM vc 0 535 μ F G) (h : f_Shop_coinsOf j0 x1 μ = some o) : Mt g (d + 0) m_Shop_coinsOf [.inr (0, off 9 j0), .inl (.int x1)] (G, nx) 0 0 (pRO (rI o) (G, nx)) := by
  unfold f_Shop_coinsOf at h
  have kE : ∀ v, o = v → pRO (rI o) (G, nx) = pRO (rI v) (G, nx) := fun v e => by subst e; rfl
  refine Mt.of9 [some (.inr (0, off 9 j0)), some (.inl (.int x1))] (by decide +kernel) rfl rfl rfl rfl ?_
  refine ev_iload_n (k0 := 1) rfl d_Shop_coinsOf_0 ?_
  refine ev_if_lt (tgt := 19) (by decide) d_Shop_coinsOf_1 (fun c => ?_) (fun c => ?_)
  · rw [if_pos c] at h
    refine cw_iconst 0 d_Shop_coinsOf_19 rfl ?_
    have hP := kE _ (Option.some.inj h).symm
    exact ev_ireturn (st := []) rfl rfl d_Shop_coinsOf_20 (by rw [hP]; exact ⟨rfl, rfl⟩)
  · rw [if_neg c] at h
    refine ev_iload_n (k0 := 1) rfl d_Shop_coinsOf_4 ?_
    refine cw_bipush 8 d_Shop_coinsOf_5 rfl ?_
    refine ev_icmp_ge (tgt := 19) (by decide) d_Shop_coinsOf_7 (fun c => ?_) (fun c => ?_)
    · rw [if_pos c] at h
      refine cw_iconst 0 d_Shop_coinsOf_19 rfl ?_
      have hP := kE _ (Option.some.inj h).symm
      exact ev_ireturn (st := []) rfl rfl d_Shop_coinsOf_20 (by rw [hP]; exact ⟨rfl, rfl⟩)
    · rw [if_neg c] at h
      refine ev_aload_n (k0 := 0) rfl d_Shop_coinsOf_10 ?_
      refine cv_get9 (.inr (0, off 27 j0)) hG hv0 fg_Shop_18_9 rfl rfl d_Shop_coinsOf_11 ?_
      refine ev_iload_n (k0 := 1) rfl d_Shop_coinsOf_14 ?_
      obtain ⟨b1, h⟩ := chk_some h
      refine cv_iald hG (tv_9_3 hv0) rfl rfl b1 rfl d_Shop_coinsOf_15 ?_
      refine ev_goto (tgt := 20) (by decide) d_Shop_coinsOf_16 ?_
      have hP := kE _ (Option.some.inj h).symm
      exact ev_ireturn (st := []) rfl rfl d_Shop_coinsOf_20 (by rw [hP]; exact ⟨rfl, rfl⟩)

/-- ProphecyShop.purse -/
def f_P_purse (x1 : Int32) (μ : Mem) : Option (Int32) :=
  chk (decide ((μ 12 0 3).toNatClampNeg < 2)) (((f_Names_has (3 * ((μ 12 0 3).toNatClampNeg) + 2) x1 μ)).bind (fun r2 => ((f_P_throwIfMissing r2 μ)).bind (fun r3 => ((f_Shop_coinsOf 0 x1 μ)).bind (fun r4 => some r4))))
set_option maxRecDepth 100000 in
set_option maxHeartbeats 4000000 in
theorem w_P_purse {g : GL} {F G : RG} {nx : Nat} (d : Nat) {x1 : Int32} {μ : Mem}   {o : Int32} (hG : LM vc 0 535 μ F G) (h : f_P_purse x1 μ = some o) : Mt g (d + 1) m_P_purse [.inr (0, off 12 0), .inl (.int x1)] (G, nx) 0 0 (pRO (rI o) (G, nx)) := by
  unfold f_P_purse at h
  have kE : ∀ v, o = v → pRO (rI o) (G, nx) = pRO (rI v) (G, nx) := fun v e => by subst e; rfl
  refine Mt.of9 [some (.inr (0, off 12 0)), some (.inl (.int x1))] (by decide +kernel) rfl rfl rfl rfl ?_
  refine ev_aload_n (k0 := 0) rfl d_P_purse_0 ?_
  obtain ⟨b1, h⟩ := chk_some h
  refine cv_get9 (.inr (0, off 7 ((μ 12 0 3).toNatClampNeg))) hG v_12 fg_ProphecyShop_35_12 rfl rfl d_P_purse_1 ?_
  refine cv_get9 (.inr (0, off 3 (3 * ((μ 12 0 3).toNatClampNeg) + 2))) hG (show vc 7 _ from dlt9 b1) fg_ProphecyShop_164_7 rfl rfl d_P_purse_4 ?_
  refine ev_iload_n (k0 := 1) rfl d_P_purse_7 ?_
  obtain ⟨r2, hr2, h⟩ := bind_some9 h
  refine cv_V (d := d + 0) (mc1 := 0) (ms1 := 0) (mc := 0) (ms := 0) [.inl (.int x1)] hG (tv_7_7 (show vc 7 _ from dlt9 b1)) rfl lk_ProphecyShop_174 (w_Names_has (d + 0) (tv_7_7 (show vc 7 _ from dlt9 b1)) hG hr2) rfl rfl d_P_purse_8 (aft_ro ?_)
  refine Ev.at (pc' := 11) rfl (Ev.cong (st' := [.inl (.int r2)]) ?_ rfl rfl)
  obtain ⟨r3, hr3, h⟩ := bind_some9 h
  refine cw_S (d := d + 0) (mc1 := 0) (ms1 := 0) (mc := 0) (ms := 0) [.inl (.int r2)] lk_ProphecyShop_178 (w_P_throwIfMissing (d + 0) hG hr3) rfl rfl d_P_purse_11 (aft_ro ?_)
  refine Ev.at (pc' := 14) rfl (Ev.cong (st' := []) ?_ rfl rfl)
  refine ev_aload_n (k0 := 0) rfl d_P_purse_14 ?_
  refine cv_get9 (.inr (0, off 9 0)) hG v_12 fg_ProphecyShop_47_12 rfl rfl d_P_purse_15 ?_
  refine ev_iload_n (k0 := 1) rfl d_P_purse_18 ?_
  obtain ⟨r4, hr4, h⟩ := bind_some9 h
  refine cv_V (d := d + 0) (mc1 := 0) (ms1 := 0) (mc := 0) (ms := 0) [.inl (.int x1)] hG (show vc 9 0 from (by decide : 0 < 12)) rfl lk_ProphecyShop_182 (w_Shop_coinsOf (d + 0) (show vc 9 0 from (by decide : 0 < 12)) hG hr4) rfl rfl d_P_purse_19 (aft_ro ?_)
  refine Ev.at (pc' := 22) rfl (Ev.cong (st' := [.inl (.int r4)]) ?_ rfl rfl)
  have hP := kE _ (Option.some.inj h).symm
  exact ev_ireturn (st := []) rfl rfl d_P_purse_22 (by rw [hP]; exact ⟨rfl, rfl⟩)

/-- ProphecyShop.queueLength -/
def f_P_queueLength  (μ : Mem) : Option (Int32) :=
  some (μ 9 0 8)
set_option maxRecDepth 100000 in
set_option maxHeartbeats 4000000 in
theorem w_P_queueLength {g : GL} {F G : RG} {nx : Nat} (d : Nat)  {μ : Mem}   {o : Int32} (hG : LM vc 0 535 μ F G) (h : f_P_queueLength  μ = some o) : Mt g (d + 0) m_P_queueLength [.inr (0, off 12 0)] (G, nx) 0 0 (pRO (rI o) (G, nx)) := by
  unfold f_P_queueLength at h
  have kE : ∀ v, o = v → pRO (rI o) (G, nx) = pRO (rI v) (G, nx) := fun v e => by subst e; rfl
  refine Mt.of9 [some (.inr (0, off 12 0))] (by decide +kernel) rfl rfl rfl rfl ?_
  refine ev_aload_n (k0 := 0) rfl d_P_queueLength_0 ?_
  refine cv_get9 (.inr (0, off 9 0)) hG v_12 fg_ProphecyShop_47_12 rfl rfl d_P_queueLength_1 ?_
  refine cv_get9 (.inl (.int (μ 9 0 8))) hG (show vc 9 0 from (by decide : 0 < 12)) fg_ProphecyShop_237_9 rfl rfl d_P_queueLength_4 ?_
  have hP := kE _ (Option.some.inj h).symm
  exact ev_ireturn (st := []) rfl rfl d_P_queueLength_7 (by rw [hP]; exact ⟨rfl, rfl⟩)

/-- ProphecyShop.refundOf -/
def f_P_refundOf (x1 : Int32) (μ : Mem) : Option (Int32) :=
  ((f_P_prophecyWith x1 μ)).bind (fun r1 => chk (decide (r1 < 288)) (((f_Shop_refundFor 0 r1 μ)).bind (fun r3 => some r3)))
set_option maxRecDepth 100000 in
set_option maxHeartbeats 4000000 in
theorem w_P_refundOf {g : GL} {F G : RG} {nx : Nat} (d : Nat) {x1 : Int32} {μ : Mem}   {o : Int32} (hG : LM vc 0 535 μ F G) (h : f_P_refundOf x1 μ = some o) : Mt g (d + 3) m_P_refundOf [.inr (0, off 12 0), .inl (.int x1)] (G, nx) 0 0 (pRO (rI o) (G, nx)) := by
  unfold f_P_refundOf at h
  have kE : ∀ v, o = v → pRO (rI o) (G, nx) = pRO (rI v) (G, nx) := fun v e => by subst e; rfl
  refine Mt.of9 [some (.inr (0, off 12 0)), some (.inl (.int x1))] (by decide +kernel) rfl rfl rfl rfl ?_
  refine ev_aload_n (k0 := 0) rfl d_P_refundOf_0 ?_
  refine cv_get9 (.inr (0, off 9 0)) hG v_12 fg_ProphecyShop_47_12 rfl rfl d_P_refundOf_1 ?_
  refine ev_aload_n (k0 := 0) rfl d_P_refundOf_4 ?_
  refine ev_iload_n (k0 := 1) rfl d_P_refundOf_5 ?_
  obtain ⟨r1, hr1, h⟩ := bind_some9 h
  refine cv_V (d := d + 2) (mc1 := 0) (ms1 := 0) (mc := 0) (ms := 0) [.inl (.int x1)] hG v_12 rfl lk_ProphecyShop_198 (w_P_prophecyWith (d + 0) hG hr1) rfl rfl d_P_refundOf_6 (aft_ro ?_)
  obtain ⟨b2, h⟩ := chk_some h
  refine Ev.at (pc' := 9) rfl (Ev.cong (st' := [.inr (0, off 5 r1), .inr (0, off 9 0)]) ?_ rfl rfl)
  obtain ⟨r3, hr3, h⟩ := bind_some9 h
  refine cv_V (d := d + 2) (mc1 := 0) (ms1 := 0) (mc := 0) (ms := 0) [.inr (0, off 5 r1)] hG (show vc 9 0 from (by decide : 0 < 12)) rfl lk_ProphecyShop_233 (w_Shop_refundFor (d + 2) (show vc 9 0 from (by decide : 0 < 12)) (show vc 5 _ from dlt9 b2) hG hr3) rfl rfl d_P_refundOf_9 (aft_ro ?_)
  refine Ev.at (pc' := 12) rfl (Ev.cong (st' := [.inl (.int r3)]) ?_ rfl rfl)
  have hP := kE _ (Option.some.inj h).symm
  exact ev_ireturn (st := []) rfl rfl d_P_refundOf_12 (by rw [hP]; exact ⟨rfl, rfl⟩)

/-- ProphecyShop.refundTotal -/
def f_P_refundTotal  (μ : Mem) : Option (Int32) :=
  some (μ 9 0 14)
set_option maxRecDepth 100000 in
set_option maxHeartbeats 4000000 in
theorem w_P_refundTotal {g : GL} {F G : RG} {nx : Nat} (d : Nat)  {μ : Mem}   {o : Int32} (hG : LM vc 0 535 μ F G) (h : f_P_refundTotal  μ = some o) : Mt g (d + 0) m_P_refundTotal [.inr (0, off 12 0)] (G, nx) 0 0 (pRO (rI o) (G, nx)) := by
  unfold f_P_refundTotal at h
  have kE : ∀ v, o = v → pRO (rI o) (G, nx) = pRO (rI v) (G, nx) := fun v e => by subst e; rfl
  refine Mt.of9 [some (.inr (0, off 12 0))] (by decide +kernel) rfl rfl rfl rfl ?_
  refine ev_aload_n (k0 := 0) rfl d_P_refundTotal_0 ?_
  refine cv_get9 (.inr (0, off 9 0)) hG v_12 fg_ProphecyShop_47_12 rfl rfl d_P_refundTotal_1 ?_
  refine cv_get9 (.inl (.int (μ 9 0 14))) hG (show vc 9 0 from (by decide : 0 < 12)) fg_ProphecyShop_275_9 rfl rfl d_P_refundTotal_4 ?_
  have hP := kE _ (Option.some.inj h).symm
  exact ev_ireturn (st := []) rfl rfl d_P_refundTotal_7 (by rw [hP]; exact ⟨rfl, rfl⟩)

/-- ProphecyShop$Shop.faultOfSale -/
def f_Shop_faultOfSale (j0 : Nat) (x1 : Int32) (x2 : Int32) (x3 : Int32) (x4 : Int32) (x5 : Int32) (x6 : Int32) (x7 : Int32) (μ : Mem) : Option (Int32) :=
  ((if x2 = 1 then (some (1)) else (chk (decide ((μ 9 j0 0).toNatClampNeg < 2)) (((f_Names_has (3 * ((μ 9 j0 0).toNatClampNeg) + 1) x4 μ)).bind (fun r11 => if r11 = 0 then (some (0)) else (some (1))))) : Option (Int32))).bind (fun q1 => chk (decide ((μ 9 j0 0).toNatClampNeg < 2)) (((f_Names_has (3 * ((μ 9 j0 0).toNatClampNeg) + 2) x1 μ)).bind (fun r3 => if r3 = 0 then some 1 else (chk (decide ((μ 9 j0 0).toNatClampNeg < 2)) (((f_Names_has (3 * ((μ 9 j0 0).toNatClampNeg)) x3 μ)).bind (fun r5 => if r5 = 0 then some 1 else (if q1 = 0 then some 1 else (((f_P_isWithin x5 0 99 μ)).bind (fun r6 => if r6 = 0 then some 2 else (((f_P_isWithin x6 1 60 μ)).bind (fun r7 => if r7 = 0 then some 2 else (((f_P_isWithin x7 1 999 μ)).bind (fun r8 => if r8 = 0 then some 2 else (if (24 : Int32) ≤ (μ 9 j0 5) then some 3 else (((f_Shop_coinsOf j0 x1 μ)).bind (fun r9 => if x7 ≤ r9 then some 0 else (some 3)))))))))))))))))
set_option maxRecDepth 100000 in
set_option maxHeartbeats 4000000 in
theorem w_Shop_faultOfSale {g : GL} {F G : RG} {nx : Nat} (d : Nat) {j0 : Nat} {x1 : Int32} {x2 : Int32} {x3 : Int32} {x4 : Int32} {x5 : Int32} {x6 : Int32} {x7 : Int32} {μ : Mem} (hv0 : vc 9 j0)  {o : Int32} (hG : LM vc 0 535 μ F G) (h : f_Shop_faultOfSale j0 x1 x2 x3 x4 x5 x6 x7 μ = some o) : Mt g (d + 1) m_Shop_faultOfSale [.inr (0, off 9 j0), .inl (.int x1), .inl (.int x2), .inl (.int x3), .inl (.int x4), .inl (.int x5), .inl (.int x6), .inl (.int x7)] (G, nx) 0 0 (pRO (rI o) (G, nx)) := by
  unfold f_Shop_faultOfSale at h
  have kE : ∀ v, o = v → pRO (rI o) (G, nx) = pRO (rI v) (G, nx) := fun v e => by subst e; rfl
  refine Mt.of9 [some (.inr (0, off 9 j0)), some (.inl (.int x1)), some (.inl (.int x2)), some (.inl (.int x3)), some (.inl (.int x4)), some (.inl (.int x5)), some (.inl (.int x6)), some (.inl (.int x7)), none] (by decide +kernel) rfl rfl rfl rfl ?_
  refine ev_iload_n (k0 := 2) rfl d_Shop_faultOfSale_0 ?_
  refine cw_iconst 1 d_Shop_faultOfSale_1 rfl ?_
  obtain ⟨q1, hj, h⟩ := bind_some9 h
  have K_q1 : Ev g (d + 1) m_Shop_faultOfSale 25 [some (.inr (0, off 9 j0)), some (.inl (.int x1)), none, some (.inl (.int x3)), none, some (.inl (.int x5)), some (.inl (.int x6)), some (.inl (.int x7)), none] [.inl (.int q1)] (G, nx) 0 0 (pRO (rI o) (G, nx)) := by
    refine cw_istoreN 8 q1 rfl [some (.inr (0, off 9 j0)), some (.inl (.int x1)), none, some (.inl (.int x3)), none, some (.inl (.int x5)), some (.inl (.int x6)), some (.inl (.int x7)), some (.inl (.int q1))] d_Shop_faultOfSale_25 rfl rfl rfl ?_
    refine ev_aload_n (k0 := 0) rfl d_Shop_faultOfSale_27 ?_
    obtain ⟨b2, h⟩ := chk_some h
    refine cv_get9 (.inr (0, off 7 ((μ 9 j0 0).toNatClampNeg))) hG hv0 fg_Shop_61_9 rfl rfl d_Shop_faultOfSale_28 ?_
    refine cv_get9 (.inr (0, off 3 (3 * ((μ 9 j0 0).toNatClampNeg) + 2))) hG (show vc 7 _ from dlt9 b2) fg_Shop_103_7 rfl rfl d_Shop_faultOfSale_31 ?_
    refine ev_iload_n (k0 := 1) rfl d_Shop_faultOfSale_34 ?_
    obtain ⟨r3, hr3, h⟩ := bind_some9 h
    refine cv_V (d := d + 0) (mc1 := 0) (ms1 := 0) (mc := 0) (ms := 0) [.inl (.int x1)] hG (tv_7_7 (show vc 7 _ from dlt9 b2)) rfl lk_Shop_98 (w_Names_has (d + 0) (tv_7_7 (show vc 7 _ from dlt9 b2)) hG hr3) rfl rfl d_Shop_faultOfSale_35 (aft_ro ?_)
    refine Ev.at (pc' := 38) rfl (Ev.cong (st' := [.inl (.int r3)]) ?_ rfl rfl)
    refine ev_if_eq (tgt := 60) (by decide) d_Shop_faultOfSale_38 (fun c => ?_) (fun c => ?_)
    · rw [if_pos c] at h
      refine cw_iconst 1 d_Shop_faultOfSale_60 rfl ?_
      have hP := kE _ (Option.some.inj h).symm
      exact ev_ireturn (st := []) rfl rfl d_Shop_faultOfSale_61 (by rw [hP]; exact ⟨rfl, rfl⟩)
    · rw [if_neg c] at h
      refine ev_aload_n (k0 := 0) rfl d_Shop_faultOfSale_41 ?_
      obtain ⟨b4, h⟩ := chk_some h
      refine cv_get9 (.inr (0, off 7 ((μ 9 j0 0).toNatClampNeg))) hG hv0 fg_Shop_61_9 rfl rfl d_Shop_faultOfSale_42 ?_
      refine cv_get9 (.inr (0, off 3 (3 * ((μ 9 j0 0).toNatClampNeg)))) hG (show vc 7 _ from dlt9 b4) fg_Shop_106_7 rfl rfl d_Shop_faultOfSale_45 ?_
      refine ev_iload_n (k0 := 3) rfl d_Shop_faultOfSale_48 ?_
      obtain ⟨r5, hr5, h⟩ := bind_some9 h
      refine cv_V (d := d + 0) (mc1 := 0) (ms1 := 0) (mc := 0) (ms := 0) [.inl (.int x3)] hG (tv_7_5 (show vc 7 _ from dlt9 b4)) rfl lk_Shop_98 (w_Names_has (d + 0) (tv_7_5 (show vc 7 _ from dlt9 b4)) hG hr5) rfl rfl d_Shop_faultOfSale_49 (aft_ro ?_)
      refine Ev.at (pc' := 52) rfl (Ev.cong (st' := [.inl (.int r5)]) ?_ rfl rfl)
      refine ev_if_eq (tgt := 60) (by decide) d_Shop_faultOfSale_52 (fun c => ?_) (fun c => ?_)
      · rw [if_pos c] at h
        refine cw_iconst 1 d_Shop_faultOfSale_60 rfl ?_
        have hP := kE _ (Option.some.inj h).symm
        exact ev_ireturn (st := []) rfl rfl d_Shop_faultOfSale_61 (by rw [hP]; exact ⟨rfl, rfl⟩)
      · rw [if_neg c] at h
        refine ev_iload (i := 8) rfl d_Shop_faultOfSale_55 ?_
        refine ev_if_ne (tgt := 62) (by decide) d_Shop_faultOfSale_57 (fun c => ?_) (fun c => ?_)
        · rw [if_neg c] at h
          refine ev_iload (i := 5) rfl d_Shop_faultOfSale_62 ?_
          refine cw_iconst 0 d_Shop_faultOfSale_64 rfl ?_
          refine cw_bipush 99 d_Shop_faultOfSale_65 rfl ?_
          obtain ⟨r6, hr6, h⟩ := bind_some9 h
          refine cw_SN (d := d + 0) (mc1 := 0) (ms1 := 0) (mc := 0) (ms := 0) [.inl (.int x5), .inl (.int 0), .inl (.int 99)] lk_Shop_109 (w_P_isWithin (d + 0) hG hr6) rfl rfl d_Shop_faultOfSale_67 (aft_ro ?_)
          refine Ev.at (pc' := 70) rfl (Ev.cong (st' := [.inl (.int r6)]) ?_ rfl rfl)
          refine ev_if_eq (tgt := 96) (by decide) d_Shop_faultOfSale_70 (fun c => ?_) (fun c => ?_)
          · rw [if_pos c] at h
            refine cw_iconst 2 d_Shop_faultOfSale_96 rfl ?_
            have hP := kE _ (Option.some.inj h).symm
            exact ev_ireturn (st := []) rfl rfl d_Shop_faultOfSale_97 (by rw [hP]; exact ⟨rfl, rfl⟩)
          · rw [if_neg c] at h
            refine ev_iload (i := 6) rfl d_Shop_faultOfSale_73 ?_
            refine cw_iconst 1 d_Shop_faultOfSale_75 rfl ?_
            refine cw_bipush 60 d_Shop_faultOfSale_76 rfl ?_
            obtain ⟨r7, hr7, h⟩ := bind_some9 h
            refine cw_SN (d := d + 0) (mc1 := 0) (ms1 := 0) (mc := 0) (ms := 0) [.inl (.int x6), .inl (.int 1), .inl (.int 60)] lk_Shop_109 (w_P_isWithin (d + 0) hG hr7) rfl rfl d_Shop_faultOfSale_78 (aft_ro ?_)
            refine Ev.at (pc' := 81) rfl (Ev.cong (st' := [.inl (.int r7)]) ?_ rfl rfl)
            refine ev_if_eq (tgt := 96) (by decide) d_Shop_faultOfSale_81 (fun c => ?_) (fun c => ?_)
            · rw [if_pos c] at h
              refine cw_iconst 2 d_Shop_faultOfSale_96 rfl ?_
              have hP := kE _ (Option.some.inj h).symm
              exact ev_ireturn (st := []) rfl rfl d_Shop_faultOfSale_97 (by rw [hP]; exact ⟨rfl, rfl⟩)
            · rw [if_neg c] at h
              refine ev_iload (i := 7) rfl d_Shop_faultOfSale_84 ?_
              refine cw_iconst 1 d_Shop_faultOfSale_86 rfl ?_
              refine cw_sipush 999 d_Shop_faultOfSale_87 rfl ?_
              obtain ⟨r8, hr8, h⟩ := bind_some9 h
              refine cw_SN (d := d + 0) (mc1 := 0) (ms1 := 0) (mc := 0) (ms := 0) [.inl (.int x7), .inl (.int 1), .inl (.int 999)] lk_Shop_109 (w_P_isWithin (d + 0) hG hr8) rfl rfl d_Shop_faultOfSale_90 (aft_ro ?_)
              refine Ev.at (pc' := 93) rfl (Ev.cong (st' := [.inl (.int r8)]) ?_ rfl rfl)
              refine ev_if_ne (tgt := 98) (by decide) d_Shop_faultOfSale_93 (fun c => ?_) (fun c => ?_)
              · rw [if_neg c] at h
                refine ev_aload_n (k0 := 0) rfl d_Shop_faultOfSale_98 ?_
                refine cv_get9 (.inl (.int (μ 9 j0 5))) hG hv0 fg_Shop_28_9 rfl rfl d_Shop_faultOfSale_99 ?_
                refine cw_bipush 24 d_Shop_faultOfSale_102 rfl ?_
                refine ev_icmp_ge (tgt := 117) (by decide) d_Shop_faultOfSale_104 (fun c => ?_) (fun c => ?_)
                · rw [if_pos c] at h
                  refine cw_iconst 3 d_Shop_faultOfSale_117 rfl ?_
                  refine ev_goto (tgt := 122) (by decide) d_Shop_faultOfSale_118 ?_
                  have hP := kE _ (Option.some.inj h).symm
                  exact ev_ireturn (st := []) rfl rfl d_Shop_faultOfSale_122 (by rw [hP]; exact ⟨rfl, rfl⟩)
                · rw [if_neg c] at h
                  refine ev_aload_n (k0 := 0) rfl d_Shop_faultOfSale_107 ?_
                  refine ev_iload_n (k0 := 1) rfl d_Shop_faultOfSale_108 ?_
                  obtain ⟨r9, hr9, h⟩ := bind_some9 h
                  refine cv_V (d := d + 0) (mc1 := 0) (ms1 := 0) (mc := 0) (ms := 0) [.inl (.int x1)] hG hv0 rfl lk_Shop_113 (w_Shop_coinsOf (d + 0) hv0 hG hr9) rfl rfl d_Shop_faultOfSale_109 (aft_ro ?_)
                  refine Ev.at (pc' := 112) rfl (Ev.cong (st' := [.inl (.int r9)]) ?_ rfl rfl)
                  refine ev_iload (i := 7) rfl d_Shop_faultOfSale_112 ?_
                  refine ev_icmp_ge (tgt := 121) (by decide) d_Shop_faultOfSale_114 (fun c => ?_) (fun c => ?_)
                  · rw [if_pos c] at h
                    refine cw_iconst 0 d_Shop_faultOfSale_121 rfl ?_
                    have hP := kE _ (Option.some.inj h).symm
                    exact ev_ireturn (st := []) rfl rfl d_Shop_faultOfSale_122 (by rw [hP]; exact ⟨rfl, rfl⟩)
                  · rw [if_neg c] at h
                    refine cw_iconst 3 d_Shop_faultOfSale_117 rfl ?_
                    refine ev_goto (tgt := 122) (by decide) d_Shop_faultOfSale_118 ?_
                    have hP := kE _ (Option.some.inj h).symm
                    exact ev_ireturn (st := []) rfl rfl d_Shop_faultOfSale_122 (by rw [hP]; exact ⟨rfl, rfl⟩)
              · rw [if_pos c] at h
                refine cw_iconst 2 d_Shop_faultOfSale_96 rfl ?_
                have hP := kE _ (Option.some.inj h).symm
                exact ev_ireturn (st := []) rfl rfl d_Shop_faultOfSale_97 (by rw [hP]; exact ⟨rfl, rfl⟩)
        · rw [if_pos c] at h
          refine cw_iconst 1 d_Shop_faultOfSale_60 rfl ?_
          have hP := kE _ (Option.some.inj h).symm
          exact ev_ireturn (st := []) rfl rfl d_Shop_faultOfSale_61 (by rw [hP]; exact ⟨rfl, rfl⟩)
  clear h
  have h := hj
  refine ev_icmp_eq (tgt := 20) (by decide) d_Shop_faultOfSale_2 (fun c => ?_) (fun c => ?_)
  · rw [if_pos c] at h
    refine cw_iconst 1 d_Shop_faultOfSale_20 rfl ?_
    refine ev_goto (tgt := 25) (by decide) d_Shop_faultOfSale_21 ?_
    obtain rfl := Option.some.inj h
    exact Ev.sub (.s (.s (.n (.s (.n (.s (.s (.s (.n LSb.z))))))))) (K_q1)
  · rw [if_neg c] at h
    refine ev_aload_n (k0 := 0) rfl d_Shop_faultOfSale_5 ?_
    obtain ⟨b10, h⟩ := chk_some h
    refine cv_get9 (.inr (0, off 7 ((μ 9 j0 0).toNatClampNeg))) hG hv0 fg_Shop_61_9 rfl rfl d_Shop_faultOfSale_6 ?_
    refine cv_get9 (.inr (0, off 3 (3 * ((μ 9 j0 0).toNatClampNeg) + 1))) hG (show vc 7 _ from dlt9 b10) fg_Shop_94_7 rfl rfl d_Shop_faultOfSale_9 ?_
    refine ev_iload (i := 4) rfl d_Shop_faultOfSale_12 ?_
    obtain ⟨r11, hr11, h⟩ := bind_some9 h
    refine cv_V (d := d + 0) (mc1 := 0) (ms1 := 0) (mc := 0) (ms := 0) [.inl (.int x4)] hG (tv_7_6 (show vc 7 _ from dlt9 b10)) rfl lk_Shop_98 (w_Names_has (d + 0) (tv_7_6 (show vc 7 _ from dlt9 b10)) hG hr11) rfl rfl d_Shop_faultOfSale_14 (aft_ro ?_)
    refine Ev.at (pc' := 17) rfl (Ev.cong (st' := [.inl (.int r11)]) ?_ rfl rfl)
    refine ev_if_eq (tgt := 24) (by decide) d_Shop_faultOfSale_17 (fun c => ?_) (fun c => ?_)
    · rw [if_pos c] at h
      refine cw_iconst 0 d_Shop_faultOfSale_24 rfl ?_
      obtain rfl := Option.some.inj h
      exact Ev.sub (.s (.s (.n (.s (.n (.s (.s (.s (.n LSb.z))))))))) (K_q1)
    · rw [if_neg c] at h
      refine cw_iconst 1 d_Shop_faultOfSale_20 rfl ?_
      refine ev_goto (tgt := 25) (by decide) d_Shop_faultOfSale_21 ?_
      obtain rfl := Option.some.inj h
      exact Ev.sub (.s (.s (.n (.s (.n (.s (.s (.s (.n LSb.z))))))))) (K_q1)

/-- ProphecyShop$Shop.addProphecy -/
def f_Shop_addProphecy (j0 : Nat) (x1 : Int32) (x2 : Int32) (x3 : Int32) (x4 : Int32) (x5 : Int32) (x6 : Int32) (x7 : Int32) (μ : Mem) : Option (Int32 × Mem) :=
  if (μ 9 j0 5) < 24 then (chk (inb (μ 9 j0 5) 24) (nm (st3 μ 5 (24 * j0 + ((μ 9 j0 5).toNatClampNeg)) 0 x1) (fun μ2 => nm (st3 μ2 5 (24 * j0 + ((μ 9 j0 5).toNatClampNeg)) 1 x2) (fun μ3 => nm (st3 μ3 5 (24 * j0 + ((μ 9 j0 5).toNatClampNeg)) 2 x3) (fun μ4 => nm (st3 μ4 5 (24 * j0 + ((μ 9 j0 5).toNatClampNeg)) 3 x4) (fun μ5 => nm (st3 μ5 5 (24 * j0 + ((μ 9 j0 5).toNatClampNeg)) 4 ((μ5 9 j0 1) + x5)) (fun μ6 => nm (st3 μ6 5 (24 * j0 + ((μ 9 j0 5).toNatClampNeg)) 5 (((μ6 5 (24 * j0 + ((μ 9 j0 5).toNatClampNeg)) 4) + x6) - 1)) (fun μ7 => nm (st3 μ7 5 (24 * j0 + ((μ 9 j0 5).toNatClampNeg)) 6 x7) (fun μ8 => nm (st3 μ8 5 (24 * j0 + ((μ 9 j0 5).toNatClampNeg)) 7 0) (fun μ9 => nm (st3 μ9 5 (24 * j0 + ((μ 9 j0 5).toNatClampNeg)) 9 0) (fun μ10 => ((f_Shop_addCoins j0 x1 (-x7) μ10)).bind (fun r11 => nm (st3 r11 9 j0 2 ((r11 9 j0 2) + x7)) (fun μ12 => nm (st3 μ12 9 j0 5 ((μ12 9 j0 5) + 1)) (fun μ13 => some (((μ13 9 j0 5) - 1, μ13)))))))))))))))) else (some (((-1), μ)))
set_option maxRecDepth 100000 in
set_option maxHeartbeats 4000000 in
theorem w_Shop_addProphecy {g : GL} {F G : RG} {nx : Nat} (d : Nat) {j0 : Nat} {x1 : Int32} {x2 : Int32} {x3 : Int32} {x4 : Int32} {x5 : Int32} {x6 : Int32} {x7 : Int32} {μ : Mem} (hv0 : vc 9 j0)  {o : Int32 × Mem} (hG : LM vc 0 535 μ F G) (h : f_Shop_addProphecy j0 x1 x2 x3 x4 x5 x6 x7 μ = some o) : Mt g (d + 1) m_Shop_addProphecy [.inr (0, off 9 j0), .inl (.int x1), .inl (.int x2), .inl (.int x3), .inl (.int x4), .inl (.int x5), .inl (.int x6), .inl (.int x7)] (G, nx) 0 0 (pRW vc 0 535 (rI o.1) o.2 F nx) := by
  unfold f_Shop_addProphecy at h
  have kE : ∀ v, o = v → pRW vc 0 535 (rI o.1) o.2 F nx = pRW vc 0 535 (rI v.1) v.2 F nx := fun v e => by subst e; rfl
  refine Mt.of9 [some (.inr (0, off 9 j0)), some (.inl (.int x1)), some (.inl (.int x2)), some (.inl (.int x3)), some (.inl (.int x4)), some (.inl (.int x5)), some (.inl (.int x6)), some (.inl (.int x7)), none] (by decide +kernel) rfl rfl rfl rfl ?_
  refine ev_aload_n (k0 := 0) rfl d_Shop_addProphecy_0 ?_
  refine cv_get9 (.inl (.int (μ 9 j0 5))) hG hv0 fg_Shop_28_9 rfl rfl d_Shop_addProphecy_1 ?_
  refine cw_bipush 24 d_Shop_addProphecy_4 rfl ?_
  refine ev_icmp_lt (tgt := 11) (by decide) d_Shop_addProphecy_6 (fun c => ?_) (fun c => ?_)
  · rw [if_pos c] at h
    refine ev_aload_n (k0 := 0) rfl d_Shop_addProphecy_11 ?_
    refine cv_get9 (.inr (0, off 28 j0)) hG hv0 fg_Shop_24_9 rfl rfl d_Shop_addProphecy_12 ?_
    refine ev_aload_n (k0 := 0) rfl d_Shop_addProphecy_15 ?_
    refine cv_get9 (.inl (.int (μ 9 j0 5))) hG hv0 fg_Shop_28_9 rfl rfl d_Shop_addProphecy_16 ?_
    obtain ⟨b1, h⟩ := chk_some h
    refine cv_aald (.inr (0, off 5 (24 * j0 + ((μ 9 j0 5).toNatClampNeg)))) hG (tv_9_4 hv0) rfl rfl rfl b1 rfl d_Shop_addProphecy_19 ?_
    refine cw_astoreN 8 [some (.inr (0, off 9 j0)), some (.inl (.int x1)), some (.inl (.int x2)), some (.inl (.int x3)), some (.inl (.int x4)), some (.inl (.int x5)), some (.inl (.int x6)), some (.inl (.int x7)), some (.inr (0, off 5 (24 * j0 + ((μ 9 j0 5).toNatClampNeg))))] d_Shop_addProphecy_20 rfl rfl rfl ?_
    refine ev_aload (i := 8) rfl d_Shop_addProphecy_22 ?_
    refine ev_iload_n (k0 := 1) rfl d_Shop_addProphecy_24 ?_
    obtain ⟨μ2, e_μ2, h⟩ := nm_some h
    refine cv_put (.inl (.int x1)) x1 hG okC (ta_28 (tv_9_4 hv0) b1) fl_Shop_116_5 rfl rfl okv_int d_Shop_addProphecy_25 ?_
    intro G hG; rw [← e_μ2] at hG
    refine ev_aload (i := 8) rfl d_Shop_addProphecy_28 ?_
    refine ev_iload_n (k0 := 2) rfl d_Shop_addProphecy_30 ?_
    refine Ev.at (pc' := 31) rfl ?_
    obtain ⟨μ3, e_μ3, h⟩ := nm_some h
    refine cv_put (.inl (.int x2)) x2 hG okC (ta_28 (tv_9_4 hv0) b1) fl_Shop_119_5 rfl rfl okv_int d_Shop_addProphecy_31 ?_
    intro G hG; rw [← e_μ3] at hG
    refine ev_aload (i := 8) rfl d_Shop_addProphecy_34 ?_
    refine ev_iload_n (k0 := 3) rfl d_Shop_addProphecy_36 ?_
    obtain ⟨μ4, e_μ4, h⟩ := nm_some h
    refine cv_put (.inl (.int x3)) x3 hG okC (ta_28 (tv_9_4 hv0) b1) fl_Shop_122_5 rfl rfl okv_int d_Shop_addProphecy_37 ?_
    intro G hG; rw [← e_μ4] at hG
    refine ev_aload (i := 8) rfl d_Shop_addProphecy_40 ?_
    refine ev_iload (i := 4) rfl d_Shop_addProphecy_42 ?_
    obtain ⟨μ5, e_μ5, h⟩ := nm_some h
    refine cv_put (.inl (.int x4)) x4 hG okC (ta_28 (tv_9_4 hv0) b1) fl_Shop_125_5 rfl rfl okv_int d_Shop_addProphecy_44 ?_
    intro G hG; rw [← e_μ5] at hG
    refine ev_aload (i := 8) rfl d_Shop_addProphecy_47 ?_
    refine ev_aload_n (k0 := 0) rfl d_Shop_addProphecy_49 ?_
    refine cv_get9 (.inl (.int (μ5 9 j0 1))) hG hv0 fg_Shop_9_9 rfl rfl d_Shop_addProphecy_50 ?_
    refine ev_iload (i := 5) rfl d_Shop_addProphecy_53 ?_
    refine ev_iadd d_Shop_addProphecy_55 ?_
    refine Ev.at (pc' := 56) rfl ?_
    obtain ⟨μ6, e_μ6, h⟩ := nm_some h
    refine cv_put (.inl (.int ((μ5 9 j0 1) + x5))) ((μ5 9 j0 1) + x5) hG okC (ta_28 (tv_9_4 hv0) b1) fl_Shop_128_5 rfl rfl okv_int d_Shop_addProphecy_56 ?_
    intro G hG; rw [← e_μ6] at hG
    refine ev_aload (i := 8) rfl d_Shop_addProphecy_59 ?_
    refine ev_aload (i := 8) rfl d_Shop_addProphecy_61 ?_
    refine cv_get9 (.inl (.int (μ6 5 (24 * j0 + ((μ 9 j0 5).toNatClampNeg)) 4))) hG (ta_28 (tv_9_4 hv0) b1) fg_Shop_128_5 rfl rfl d_Shop_addProphecy_63 ?_
    refine ev_iload (i := 6) rfl d_Shop_addProphecy_66 ?_
    refine ev_iadd d_Shop_addProphecy_68 ?_
    refine cw_iconst 1 d_Shop_addProphecy_69 rfl ?_
    refine ev_isub d_Shop_addProphecy_70 ?_
    obtain ⟨μ7, e_μ7, h⟩ := nm_some h
    refine cv_put (.inl (.int (((μ6 5 (24 * j0 + ((μ 9 j0 5).toNatClampNeg)) 4) + x6) - 1))) (((μ6 5 (24 * j0 + ((μ 9 j0 5).toNatClampNeg)) 4) + x6) - 1) hG okC (ta_28 (tv_9_4 hv0) b1) fl_Shop_131_5 rfl rfl okv_int d_Shop_addProphecy_71 ?_
    intro G hG; rw [← e_μ7] at hG
    refine ev_aload (i := 8) rfl d_Shop_addProphecy_74 ?_
    refine ev_iload (i := 7) rfl d_Shop_addProphecy_76 ?_
    obtain ⟨μ8, e_μ8, h⟩ := nm_some h
    refine cv_put (.inl (.int x7)) x7 hG okC (ta_28 (tv_9_4 hv0) b1) fl_Shop_134_5 rfl rfl okv_int d_Shop_addProphecy_78 ?_
    intro G hG; rw [← e_μ8] at hG
    refine Ev.at (pc' := 81) rfl ?_
    refine ev_aload (i := 8) rfl d_Shop_addProphecy_81 ?_
    refine cw_iconst 0 d_Shop_addProphecy_83 rfl ?_
    obtain ⟨μ9, e_μ9, h⟩ := nm_some h
    refine cv_put (.inl (.int 0)) 0 hG okC (ta_28 (tv_9_4 hv0) b1) fl_Shop_137_5 rfl rfl okv_int d_Shop_addProphecy_84 ?_
    intro G hG; rw [← e_μ9] at hG
    refine ev_aload (i := 8) rfl d_Shop_addProphecy_87 ?_
    refine cw_iconst 0 d_Shop_addProphecy_89 rfl ?_
    obtain ⟨μ10, e_μ10, h⟩ := nm_some h
    refine cv_put (.inl (.int 0)) 0 hG okC (ta_28 (tv_9_4 hv0) b1) fl_Shop_140_5 rfl rfl okv_int d_Shop_addProphecy_90 ?_
    intro G hG; rw [← e_μ10] at hG
    refine ev_aload_n (k0 := 0) rfl d_Shop_addProphecy_93 ?_
    refine ev_iload_n (k0 := 1) rfl d_Shop_addProphecy_94 ?_
    refine ev_iload (i := 7) rfl d_Shop_addProphecy_95 ?_
    refine ev_ineg d_Shop_addProphecy_97 ?_
    obtain ⟨r11, hr11, h⟩ := bind_some9 h
    refine cv_V (d := d + 0) (mc1 := 0) (ms1 := 0) (mc := 0) (ms := 0) [.inl (.int x1), .inl (.int (-x7))] hG hv0 rfl lk_Shop_143 (w_Shop_addCoins (d + 0) hv0 hG hr11) rfl rfl d_Shop_addProphecy_98 (aft_rw (fun G hG => ?_))
    refine Ev.at (pc' := 101) rfl (Ev.cong (st' := []) ?_ rfl rfl)
    refine ev_aload_n (k0 := 0) rfl d_Shop_addProphecy_101 ?_
    refine ev_dup rfl d_Shop_addProphecy_102 ?_
    refine cv_get9 (.inl (.int (r11 9 j0 2))) hG hv0 fg_Shop_15_9 rfl rfl d_Shop_addProphecy_103 ?_
    refine ev_iload (i := 7) rfl d_Shop_addProphecy_106 ?_
    refine ev_iadd d_Shop_addProphecy_108 ?_
    obtain ⟨μ12, e_μ12, h⟩ := nm_some h
    refine cv_put (.inl (.int ((r11 9 j0 2) + x7))) ((r11 9 j0 2) + x7) hG okC hv0 fl_Shop_15_9 rfl rfl okv_int d_Shop_addProphecy_109 ?_
    intro G hG; rw [← e_μ12] at hG
    refine ev_aload_n (k0 := 0) rfl d_Shop_addProphecy_112 ?_
    refine ev_dup rfl d_Shop_addProphecy_113 ?_
    refine cv_get9 (.inl (.int (μ12 9 j0 5))) hG hv0 fg_Shop_28_9 rfl rfl d_Shop_addProphecy_114 ?_
    refine cw_iconst 1 d_Shop_addProphecy_117 rfl ?_
    refine ev_iadd d_Shop_addProphecy_118 ?_
    refine Ev.at (pc' := 119) rfl ?_
    obtain ⟨μ13, e_μ13, h⟩ := nm_some h
    refine cv_put (.inl (.int ((μ12 9 j0 5) + 1))) ((μ12 9 j0 5) + 1) hG okC hv0 fl_Shop_28_9 rfl rfl okv_int d_Shop_addProphecy_119 ?_
    intro G hG; rw [← e_μ13] at hG
    refine ev_aload_n (k0 := 0) rfl d_Shop_addProphecy_122 ?_
    refine cv_get9 (.inl (.int (μ13 9 j0 5))) hG hv0 fg_Shop_28_9 rfl rfl d_Shop_addProphecy_123 ?_
    refine cw_iconst 1 d_Shop_addProphecy_126 rfl ?_
    refine ev_isub d_Shop_addProphecy_127 ?_
    have hP := kE _ (Option.some.inj h).symm
    exact ev_ireturn (st := []) rfl rfl d_Shop_addProphecy_128 (by rw [hP]; exact ⟨rfl, hG, rfl⟩)
  · rw [if_neg c] at h
    refine cw_iconst (-1) d_Shop_addProphecy_9 rfl ?_
    have hP := kE _ (Option.some.inj h).symm
    exact ev_ireturn (st := []) rfl rfl d_Shop_addProphecy_10 (by rw [hP]; exact ⟨rfl, hG, rfl⟩)

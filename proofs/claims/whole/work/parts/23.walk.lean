/-- ProphecyShopModel.wouldAnswer -/
def f_R_wouldAnswer (x1 : Int32) (μ : Mem) : Option (Int32) :=
  ((f_R_of x1 7 μ)).bind (fun r1 => if r1 = 0 then some 2 else (if r1 = 1 then some 3 else (if r1 = 3 then some 4 else (chk (inb 5 524) (((f_R_of x1 8 μ)).bind (fun r3 => chk (inb 2 524) (if ((μ 40 0 (5 : Int32).toNatClampNeg) - r3) ≤ (μ 40 0 (2 : Int32).toNatClampNeg) then (chk (inb 0 524) (((f_R_refund x1 μ)).bind (fun r6 => if r6 ≤ (μ 40 0 (0 : Int32).toNatClampNeg) then some 1 else (some 6)))) else (some 5))))))))
set_option maxRecDepth 100000 in
set_option maxHeartbeats 4000000 in
theorem w_R_wouldAnswer {g : GL} {F G : RG} {nx : Nat} (d : Nat) {x1 : Int32} {μ : Mem}   {o : Int32} (hG : LM vr 535 547 μ F G) (h : f_R_wouldAnswer x1 μ = some o) : Mt g (d + 2) m_R_wouldAnswer [.inr (0, off 13 0), .inl (.int x1)] (G, nx) 0 0 (pRO (rI o) (G, nx)) := by
  unfold f_R_wouldAnswer at h
  have kE : ∀ v, o = v → pRO (rI o) (G, nx) = pRO (rI v) (G, nx) := fun v e => by rw [e]
  refine Mt.of9 [some (.inr (0, off 13 0)), some (.inl (.int x1)), none] (by decide +kernel) rfl rfl rfl rfl ?_
  refine ev_aload_n (k0 := 0) rfl d_R_wouldAnswer_0 ?_
  refine ev_iload_n (k0 := 1) rfl d_R_wouldAnswer_1 ?_
  refine cw_bipush 7 d_R_wouldAnswer_2 rfl ?_
  obtain ⟨r1, hr1, h⟩ := bind_some9 h
  refine cv_V (d := d + 1) (mc1 := 0) (ms1 := 0) (mc := 0) (ms := 0) [.inl (.int x1), .inl (.int 7)] hG v_13 rfl lk_ProphecyShopModel_84 (w_R_of (d + 1) hG hr1) rfl rfl d_R_wouldAnswer_4 (aft_ro ?_)
  refine Ev.at (pc' := 7) rfl (Ev.cong (st' := [.inl (.int r1)]) ?_ rfl rfl)
  refine cw_istoreN_n 2 r1 rfl [some (.inr (0, off 13 0)), some (.inl (.int x1)), some (.inl (.int r1))] d_R_wouldAnswer_7 rfl rfl rfl ?_
  refine ev_iload_n (k0 := 2) rfl d_R_wouldAnswer_8 ?_
  refine ev_if_ne (tgt := 14) (by decide) d_R_wouldAnswer_9 (fun c => ?_) (fun c => ?_)
  · rw [if_neg c] at h
    refine ev_iload_n (k0 := 2) rfl d_R_wouldAnswer_14 ?_
    refine cw_iconst 1 d_R_wouldAnswer_15 rfl ?_
    refine ev_icmp_ne (tgt := 21) (by decide) d_R_wouldAnswer_16 (fun c => ?_) (fun c => ?_)
    · rw [if_neg c] at h
      refine ev_iload_n (k0 := 2) rfl d_R_wouldAnswer_21 ?_
      refine cw_iconst 3 d_R_wouldAnswer_22 rfl ?_
      refine ev_icmp_ne (tgt := 28) (by decide) d_R_wouldAnswer_23 (fun c => ?_) (fun c => ?_)
      · rw [if_neg c] at h
        refine ev_aload_n (k0 := 0) rfl d_R_wouldAnswer_28 ?_
        refine cv_get9 (.inr (0, off 40 0)) hG v_13 fg_ProphecyShopModel_7_13 rfl rfl d_R_wouldAnswer_29 ?_
        refine cw_iconst 5 d_R_wouldAnswer_32 rfl ?_
        obtain ⟨b2, h⟩ := chk_some h
        refine cv_iald hG v_40 rfl rfl b2 rfl d_R_wouldAnswer_33 ?_
        refine ev_aload_n (k0 := 0) rfl d_R_wouldAnswer_34 ?_
        refine ev_iload_n (k0 := 1) rfl d_R_wouldAnswer_35 ?_
        refine cw_bipush 8 d_R_wouldAnswer_36 rfl ?_
        obtain ⟨r3, hr3, h⟩ := bind_some9 h
        refine cv_V (d := d + 1) (mc1 := 0) (ms1 := 0) (mc := 0) (ms := 0) [.inl (.int x1), .inl (.int 8)] hG v_13 rfl lk_ProphecyShopModel_84 (w_R_of (d + 1) hG hr3) rfl rfl d_R_wouldAnswer_38 (aft_ro ?_)
        refine Ev.at (pc' := 41) rfl (Ev.cong (st' := [.inl (.int r3), .inl (.int (μ 40 0 (5 : Int32).toNatClampNeg))]) ?_ rfl rfl)
        refine ev_isub d_R_wouldAnswer_41 ?_
        refine ev_aload_n (k0 := 0) rfl d_R_wouldAnswer_42 ?_
        refine cv_get9 (.inr (0, off 40 0)) hG v_13 fg_ProphecyShopModel_7_13 rfl rfl d_R_wouldAnswer_43 ?_
        refine cw_iconst 2 d_R_wouldAnswer_46 rfl ?_
        obtain ⟨b4, h⟩ := chk_some h
        refine cv_iald hG v_40 rfl rfl b4 rfl d_R_wouldAnswer_47 ?_
        refine ev_icmp_le (tgt := 53) (by decide) d_R_wouldAnswer_48 (fun c => ?_) (fun c => ?_)
        · rw [if_pos c] at h
          refine ev_aload_n (k0 := 0) rfl d_R_wouldAnswer_53 ?_
          refine cv_get9 (.inr (0, off 40 0)) hG v_13 fg_ProphecyShopModel_7_13 rfl rfl d_R_wouldAnswer_54 ?_
          refine cw_iconst 0 d_R_wouldAnswer_57 rfl ?_
          obtain ⟨b5, h⟩ := chk_some h
          refine cv_iald hG v_40 rfl rfl b5 rfl d_R_wouldAnswer_58 ?_
          refine ev_aload_n (k0 := 0) rfl d_R_wouldAnswer_59 ?_
          refine ev_iload_n (k0 := 1) rfl d_R_wouldAnswer_60 ?_
          obtain ⟨r6, hr6, h⟩ := bind_some9 h
          refine cv_V (d := d + 1) (mc1 := 0) (ms1 := 0) (mc := 0) (ms := 0) [.inl (.int x1)] hG v_13 rfl lk_ProphecyShopModel_91 (w_R_refund (d + 0) hG hr6) rfl rfl d_R_wouldAnswer_61 (aft_ro ?_)
          refine Ev.at (pc' := 64) rfl (Ev.cong (st' := [.inl (.int r6), .inl (.int (μ 40 0 (0 : Int32).toNatClampNeg))]) ?_ rfl rfl)
          refine ev_icmp_ge (tgt := 72) (by decide) d_R_wouldAnswer_64 (fun c => ?_) (fun c => ?_)
          · rw [if_pos c] at h
            refine cw_iconst 1 d_R_wouldAnswer_72 rfl ?_
            have hP := kE _ (Option.some.inj h).symm
            exact ev_ireturn (st := []) rfl rfl d_R_wouldAnswer_73 (by rw [hP]; exact ⟨rfl, rfl⟩)
          · rw [if_neg c] at h
            refine cw_bipush 6 d_R_wouldAnswer_67 rfl ?_
            refine ev_goto (tgt := 73) (by decide) d_R_wouldAnswer_69 ?_
            have hP := kE _ (Option.some.inj h).symm
            exact ev_ireturn (st := []) rfl rfl d_R_wouldAnswer_73 (by rw [hP]; exact ⟨rfl, rfl⟩)
        · rw [if_neg c] at h
          refine cw_iconst 5 d_R_wouldAnswer_51 rfl ?_
          have hP := kE _ (Option.some.inj h).symm
          exact ev_ireturn (st := []) rfl rfl d_R_wouldAnswer_52 (by rw [hP]; exact ⟨rfl, rfl⟩)
      · rw [if_pos c] at h
        refine cw_iconst 4 d_R_wouldAnswer_26 rfl ?_
        have hP := kE _ (Option.some.inj h).symm
        exact ev_ireturn (st := []) rfl rfl d_R_wouldAnswer_27 (by rw [hP]; exact ⟨rfl, rfl⟩)
    · rw [if_pos c] at h
      refine cw_iconst 3 d_R_wouldAnswer_19 rfl ?_
      have hP := kE _ (Option.some.inj h).symm
      exact ev_ireturn (st := []) rfl rfl d_R_wouldAnswer_20 (by rw [hP]; exact ⟨rfl, rfl⟩)
  · rw [if_pos c] at h
    refine cw_iconst 2 d_R_wouldAnswer_12 rfl ?_
    have hP := kE _ (Option.some.inj h).symm
    exact ev_ireturn (st := []) rfl rfl d_R_wouldAnswer_13 (by rw [hP]; exact ⟨rfl, rfl⟩)

/-- ProphecyShopModel.idle -/
def s_R_idle_2  (x1 : Int32) (μ : Mem) : Option ((Int32) ⊕ ((Unit) ⊕ (Int32))) :=
  chk (inb 9 524) (if (μ 40 0 (9 : Int32).toNatClampNeg) ≤ x1 then (some (.inr (.inl (())))) else (((f_R_ofOwl x1 1 μ)).bind (fun r2 => if r2 = 0 then (some (.inr (.inr x1))) else (some (.inl (x1 + 1))))))
def f_R_idle  (μ : Mem) : Option (Int32) :=
  (it (fun (s : Int32) => s_R_idle_2 s μ) LIM 0).bind (fun q1 => els q1 (fun r2 => some ((-1))) (fun v => some v))
set_option maxRecDepth 100000 in
set_option maxHeartbeats 4000000 in
theorem ws_R_idle_2 {g : GL} {F G : RG} {nx mc ms : Nat} {Post : RO → RM → Prop} (d : Nat)  {x1 : Int32} {μ : Mem}   {o : (Int32) ⊕ ((Unit) ⊕ (Int32))} (hG : LM vr 535 547 μ F G) (h : s_R_idle_2  x1 μ = some o)
    (kC : ∀ s', o = .inl s' → Ev g (d + 1) m_R_idle 2 [some (.inr (0, off 13 0)), some (.inl (.int s'))] [] (G, nx) mc ms Post)
    (kX : ∀ r, o = .inr (.inl r) → Ev g (d + 1) m_R_idle 30 [none, none] [] (G, nx) mc ms Post)
    (kE : ∀ v, o = .inr (.inr v) → Post = pRO (rI v) (G, nx)) : Ev g (d + 1) m_R_idle 2 [some (.inr (0, off 13 0)), some (.inl (.int x1))] [] (G, nx) mc ms Post := by
  unfold s_R_idle_2 at h
  refine ev_iload_n (k0 := 1) rfl d_R_idle_2 ?_
  refine ev_aload_n (k0 := 0) rfl d_R_idle_3 ?_
  refine cv_get9 (.inr (0, off 40 0)) hG v_13 fg_ProphecyShopModel_7_13 rfl rfl d_R_idle_4 ?_
  refine cw_bipush 9 d_R_idle_7 rfl ?_
  obtain ⟨b1, h⟩ := chk_some h
  refine cv_iald hG v_40 rfl rfl b1 rfl d_R_idle_9 ?_
  refine ev_icmp_ge (tgt := 30) (by decide) d_R_idle_10 (fun c => ?_) (fun c => ?_)
  · rw [if_pos c] at h
    exact Ev.sub (.n (.n LSb.z)) (kX _ (Option.some.inj h).symm)
  · rw [if_neg c] at h
    refine ev_aload_n (k0 := 0) rfl d_R_idle_13 ?_
    refine ev_iload_n (k0 := 1) rfl d_R_idle_14 ?_
    refine cw_iconst 1 d_R_idle_15 rfl ?_
    obtain ⟨r2, hr2, h⟩ := bind_some9 h
    refine Ev.z9 ?_
    refine cv_V (d := d + 0) (mc1 := 0) (ms1 := 0) (mc := mc) (ms := ms) [.inl (.int x1), .inl (.int 1)] hG v_13 rfl lk_ProphecyShopModel_95 (w_R_ofOwl (d + 0) hG hr2) rfl rfl d_R_idle_16 (aft_ro ?_)
    refine Ev.at (pc' := 19) rfl (Ev.cong (st' := [.inl (.int r2)]) ?_ rfl rfl)
    refine ev_if_ne (tgt := 24) (by decide) d_R_idle_19 (fun c => ?_) (fun c => ?_)
    · rw [if_neg c] at h
      refine cw_iincN 1 1 [some (.inr (0, off 13 0)), some (.inl (.int (x1 + 1)))] d_R_idle_24 rfl rfl rfl rfl rfl ?_
      refine ev_goto (tgt := 2) (by decide) d_R_idle_27 ?_
      exact kC _ (Option.some.inj h).symm
    · rw [if_pos c] at h
      refine ev_iload_n (k0 := 1) rfl d_R_idle_22 ?_
      have hP := kE _ (Option.some.inj h).symm
      exact ev_ireturn (st := []) rfl rfl d_R_idle_23 (by rw [hP]; exact ⟨rfl, rfl⟩)
set_option maxRecDepth 100000 in
set_option maxHeartbeats 4000000 in
theorem w_R_idle {g : GL} {F G : RG} {nx : Nat} (d : Nat)  {μ : Mem}   {o : Int32} (hG : LM vr 535 547 μ F G) (h : f_R_idle  μ = some o) : Mt g (d + 1) m_R_idle [.inr (0, off 13 0)] (G, nx) 0 0 (pRO (rI o) (G, nx)) := by
  unfold f_R_idle at h
  have kE : ∀ v, o = v → pRO (rI o) (G, nx) = pRO (rI v) (G, nx) := fun v e => by rw [e]
  refine Mt.of9 [some (.inr (0, off 13 0)), none] (by decide +kernel) rfl rfl rfl rfl ?_
  refine cw_iconst 0 d_R_idle_0 rfl ?_
  refine cw_istoreN_n 1 0 rfl [some (.inr (0, off 13 0)), some (.inl (.int 0))] d_R_idle_1 rfl rfl rfl ?_
  obtain ⟨q1, hl, h⟩ := bind_some9 h
  refine it_ev (W := fun (s : Int32) => Ev g (d + 1) m_R_idle 2 [some (.inr (0, off 13 0)), some (.inl (.int s))] [] (G, nx) 0 0 (pRO (rI o) (G, nx))) (X := fun z => z = q1) rfl (fun s9 o9 hs kC9 kX9 => ?_) LIM _ hl
  refine ws_R_idle_2 d  hG hs kC9 (fun r2 e => ?_) (fun v e => ?_)
  · obtain rfl := kX9 _ e
    rw [els_l] at h
    refine cw_iconst (-1) d_R_idle_30 rfl ?_
    have hP := kE _ (Option.some.inj h).symm
    exact ev_ireturn (st := []) rfl rfl d_R_idle_31 (by rw [hP]; exact ⟨rfl, rfl⟩)
  · obtain rfl := kX9 _ e
    rw [els_r] at h
    exact kE _ (Option.some.inj h).symm

/-- ProphecyShopModel.ofCustomer -/
def f_R_ofCustomer (x1 : Int32) (x2 : Int32) (μ : Mem) : Option (Int32) :=
  chk (inb ((28 + (3 * x1)) + x2) 524) (some (μ 40 0 ((28 + (3 * x1)) + x2).toNatClampNeg))
set_option maxRecDepth 100000 in
set_option maxHeartbeats 4000000 in
theorem w_R_ofCustomer {g : GL} {F G : RG} {nx : Nat} (d : Nat) {x1 : Int32} {x2 : Int32} {μ : Mem}   {o : Int32} (hG : LM vr 535 547 μ F G) (h : f_R_ofCustomer x1 x2 μ = some o) : Mt g (d + 0) m_R_ofCustomer [.inr (0, off 13 0), .inl (.int x1), .inl (.int x2)] (G, nx) 0 0 (pRO (rI o) (G, nx)) := by
  unfold f_R_ofCustomer at h
  have kE : ∀ v, o = v → pRO (rI o) (G, nx) = pRO (rI v) (G, nx) := fun v e => by rw [e]
  refine Mt.of9 [some (.inr (0, off 13 0)), some (.inl (.int x1)), some (.inl (.int x2))] (by decide +kernel) rfl rfl rfl rfl ?_
  refine ev_aload_n (k0 := 0) rfl d_R_ofCustomer_0 ?_
  refine cv_get9 (.inr (0, off 40 0)) hG v_13 fg_ProphecyShopModel_7_13 rfl rfl d_R_ofCustomer_1 ?_
  refine cw_bipush 28 d_R_ofCustomer_4 rfl ?_
  refine cw_iconst 3 d_R_ofCustomer_6 rfl ?_
  refine ev_iload_n (k0 := 1) rfl d_R_ofCustomer_7 ?_
  refine ev_imul d_R_ofCustomer_8 ?_
  refine ev_iadd d_R_ofCustomer_9 ?_
  refine ev_iload_n (k0 := 2) rfl d_R_ofCustomer_10 ?_
  refine ev_iadd d_R_ofCustomer_11 ?_
  obtain ⟨b1, h⟩ := chk_some h
  refine cv_iald hG v_40 rfl rfl b1 rfl d_R_ofCustomer_12 ?_
  have hP := kE _ (Option.some.inj h).symm
  exact ev_ireturn (st := []) rfl rfl d_R_ofCustomer_13 (by rw [hP]; exact ⟨rfl, rfl⟩)

/-- ProphecyShopModel.flies -/
def f_R_flies (x1 : Int32) (μ : Mem) : Option (Mem) :=
  ((f_R_idle μ)).bind (fun r1 => ((f_R_of x1 0 μ)).bind (fun r2 => ((f_R_ofCustomer r2 2 μ)).bind (fun r3 => ((f_R_ofOwl r1 0 μ)).bind (fun r4 => ((f_R_ofOwl r1 0 μ)).bind (fun r5 => chk (decide (¬ r5 = 0)) (nm (((r3 + r4) - 1) / r5 : Int32) (fun v7 => ((f_R_putOwl r1 1 v7 μ)).bind (fun r8 => ((f_R_putOwl r1 4 v7 r8)).bind (fun r9 => ((f_R_refund x1 r9)).bind (fun r10 => ((f_R_putOwl r1 2 r10 r9)).bind (fun r11 => ((f_R_of x1 0 r11)).bind (fun r12 => ((f_R_putOwl r1 3 r12 r11)).bind (fun r13 => chk (inb 0 524) (((f_R_refund x1 r13)).bind (fun r15 => chk (inb 0 524) (nm (st3 r13 40 0 (0 : Int32).toNatClampNeg ((r13 40 0 (0 : Int32).toNatClampNeg) - r15)) (fun μ17 => chk (inb 14 524) (((f_R_refund x1 μ17)).bind (fun r19 => chk (inb 14 524) (nm (st3 μ17 40 0 (14 : Int32).toNatClampNeg ((μ17 40 0 (14 : Int32).toNatClampNeg) + r19)) (fun μ21 => ((f_R_puts x1 7 3 μ21)).bind (fun r22 => some r22))))))))))))))))))))))
set_option maxRecDepth 100000 in
set_option maxHeartbeats 4000000 in
theorem w_R_flies {g : GL} {F G : RG} {nx : Nat} (d : Nat) {x1 : Int32} {μ : Mem}   {o : Mem} (hG : LM vr 535 547 μ F G) (h : f_R_flies x1 μ = some o) : Mt g (d + 2) m_R_flies [.inr (0, off 13 0), .inl (.int x1)] (G, nx) 0 0 (pRW vr 535 547 rV o F nx) := by
  unfold f_R_flies at h
  have kE : ∀ v, o = v → pRW vr 535 547 rV o F nx = pRW vr 535 547 rV v F nx := fun v e => by rw [e]
  refine Mt.of9 [some (.inr (0, off 13 0)), some (.inl (.int x1)), none, none, none] (by decide +kernel) rfl rfl rfl rfl ?_
  refine ev_aload_n (k0 := 0) rfl d_R_flies_0 ?_
  obtain ⟨r1, hr1, h⟩ := bind_some9 h
  refine cv_V (d := d + 1) (mc1 := 0) (ms1 := 0) (mc := 0) (ms := 0) [] hG v_13 rfl lk_ProphecyShopModel_98 (w_R_idle (d + 0) hG hr1) rfl rfl d_R_flies_1 (aft_ro ?_)
  refine Ev.at (pc' := 4) rfl (Ev.cong (st' := [.inl (.int r1)]) ?_ rfl rfl)
  refine cw_istoreN_n 2 r1 rfl [some (.inr (0, off 13 0)), some (.inl (.int x1)), some (.inl (.int r1)), none, none] d_R_flies_4 rfl rfl rfl ?_
  refine ev_aload_n (k0 := 0) rfl d_R_flies_5 ?_
  refine ev_aload_n (k0 := 0) rfl d_R_flies_6 ?_
  refine ev_iload_n (k0 := 1) rfl d_R_flies_7 ?_
  refine cw_iconst 0 d_R_flies_8 rfl ?_
  obtain ⟨r2, hr2, h⟩ := bind_some9 h
  refine cv_V (d := d + 1) (mc1 := 0) (ms1 := 0) (mc := 0) (ms := 0) [.inl (.int x1), .inl (.int 0)] hG v_13 rfl lk_ProphecyShopModel_84 (w_R_of (d + 1) hG hr2) rfl rfl d_R_flies_9 (aft_ro ?_)
  refine Ev.at (pc' := 12) rfl (Ev.cong (st' := [.inl (.int r2), .inr (0, off 13 0)]) ?_ rfl rfl)
  refine cw_iconst 2 d_R_flies_12 rfl ?_
  obtain ⟨r3, hr3, h⟩ := bind_some9 h
  refine cv_V (d := d + 1) (mc1 := 0) (ms1 := 0) (mc := 0) (ms := 0) [.inl (.int r2), .inl (.int 2)] hG v_13 rfl lk_ProphecyShopModel_101 (w_R_ofCustomer (d + 1) hG hr3) rfl rfl d_R_flies_13 (aft_ro ?_)
  refine Ev.at (pc' := 16) rfl (Ev.cong (st' := [.inl (.int r3)]) ?_ rfl rfl)
  refine cw_istoreN_n 3 r3 rfl [some (.inr (0, off 13 0)), some (.inl (.int x1)), some (.inl (.int r1)), some (.inl (.int r3)), none] d_R_flies_16 rfl rfl rfl ?_
  refine ev_iload_n (k0 := 3) rfl d_R_flies_17 ?_
  refine ev_aload_n (k0 := 0) rfl d_R_flies_18 ?_
  refine ev_iload_n (k0 := 2) rfl d_R_flies_19 ?_
  refine cw_iconst 0 d_R_flies_20 rfl ?_
  obtain ⟨r4, hr4, h⟩ := bind_some9 h
  refine cv_V (d := d + 1) (mc1 := 0) (ms1 := 0) (mc := 0) (ms := 0) [.inl (.int r1), .inl (.int 0)] hG v_13 rfl lk_ProphecyShopModel_95 (w_R_ofOwl (d + 1) hG hr4) rfl rfl d_R_flies_21 (aft_ro ?_)
  refine Ev.at (pc' := 24) rfl (Ev.cong (st' := [.inl (.int r4), .inl (.int r3)]) ?_ rfl rfl)
  refine ev_iadd d_R_flies_24 ?_
  refine cw_iconst 1 d_R_flies_25 rfl ?_
  refine ev_isub d_R_flies_26 ?_
  refine ev_aload_n (k0 := 0) rfl d_R_flies_27 ?_
  refine ev_iload_n (k0 := 2) rfl d_R_flies_28 ?_
  refine cw_iconst 0 d_R_flies_29 rfl ?_
  obtain ⟨r5, hr5, h⟩ := bind_some9 h
  refine cv_V (d := d + 1) (mc1 := 0) (ms1 := 0) (mc := 0) (ms := 0) [.inl (.int r1), .inl (.int 0)] hG v_13 rfl lk_ProphecyShopModel_95 (w_R_ofOwl (d + 1) hG hr5) rfl rfl d_R_flies_30 (aft_ro ?_)
  refine Ev.at (pc' := 33) rfl (Ev.cong (st' := [.inl (.int r5), .inl (.int ((r3 + r4) - 1))]) ?_ rfl rfl)
  obtain ⟨b6, h⟩ := chk_some h
  refine ev_idiv (of_decide_eq_true b6) d_R_flies_33 ?_
  obtain ⟨v7, e_v7, h⟩ := nm_some h
  refine cw_istoreN 4 v7 e_v7 [some (.inr (0, off 13 0)), some (.inl (.int x1)), some (.inl (.int r1)), some (.inl (.int r3)), some (.inl (.int v7))] d_R_flies_34 rfl rfl rfl ?_
  refine ev_aload_n (k0 := 0) rfl d_R_flies_36 ?_
  refine ev_iload_n (k0 := 2) rfl d_R_flies_37 ?_
  refine cw_iconst 1 d_R_flies_38 rfl ?_
  refine ev_iload (i := 4) rfl d_R_flies_39 ?_
  obtain ⟨r8, hr8, h⟩ := bind_some9 h
  refine cv_V (d := d + 1) (mc1 := 0) (ms1 := 0) (mc := 0) (ms := 0) [.inl (.int r1), .inl (.int 1), .inl (.int v7)] hG v_13 rfl lk_ProphecyShopModel_104 (w_R_putOwl (d + 1) hG hr8) rfl rfl d_R_flies_41 (aft_rw (fun G hG => ?_))
  refine Ev.at (pc' := 44) rfl (Ev.cong (st' := []) ?_ rfl rfl)
  refine ev_aload_n (k0 := 0) rfl d_R_flies_44 ?_
  refine ev_iload_n (k0 := 2) rfl d_R_flies_45 ?_
  refine cw_iconst 4 d_R_flies_46 rfl ?_
  refine ev_iload (i := 4) rfl d_R_flies_47 ?_
  obtain ⟨r9, hr9, h⟩ := bind_some9 h
  refine cv_V (d := d + 1) (mc1 := 0) (ms1 := 0) (mc := 0) (ms := 0) [.inl (.int r1), .inl (.int 4), .inl (.int v7)] hG v_13 rfl lk_ProphecyShopModel_104 (w_R_putOwl (d + 1) hG hr9) rfl rfl d_R_flies_49 (aft_rw (fun G hG => ?_))
  refine Ev.at (pc' := 52) rfl (Ev.cong (st' := []) ?_ rfl rfl)
  refine ev_aload_n (k0 := 0) rfl d_R_flies_52 ?_
  refine ev_iload_n (k0 := 2) rfl d_R_flies_53 ?_
  refine cw_iconst 2 d_R_flies_54 rfl ?_
  refine ev_aload_n (k0 := 0) rfl d_R_flies_55 ?_
  refine ev_iload_n (k0 := 1) rfl d_R_flies_56 ?_
  obtain ⟨r10, hr10, h⟩ := bind_some9 h
  refine cv_V (d := d + 1) (mc1 := 0) (ms1 := 0) (mc := 0) (ms := 0) [.inl (.int x1)] hG v_13 rfl lk_ProphecyShopModel_91 (w_R_refund (d + 0) hG hr10) rfl rfl d_R_flies_57 (aft_ro ?_)
  refine Ev.at (pc' := 60) rfl (Ev.cong (st' := [.inl (.int r10), .inl (.int 2), .inl (.int r1), .inr (0, off 13 0)]) ?_ rfl rfl)
  obtain ⟨r11, hr11, h⟩ := bind_some9 h
  refine cv_V (d := d + 1) (mc1 := 0) (ms1 := 0) (mc := 0) (ms := 0) [.inl (.int r1), .inl (.int 2), .inl (.int r10)] hG v_13 rfl lk_ProphecyShopModel_104 (w_R_putOwl (d + 1) hG hr11) rfl rfl d_R_flies_60 (aft_rw (fun G hG => ?_))
  refine Ev.at (pc' := 63) rfl (Ev.cong (st' := []) ?_ rfl rfl)
  refine ev_aload_n (k0 := 0) rfl d_R_flies_63 ?_
  refine ev_iload_n (k0 := 2) rfl d_R_flies_64 ?_
  refine cw_iconst 3 d_R_flies_65 rfl ?_
  refine ev_aload_n (k0 := 0) rfl d_R_flies_66 ?_
  refine ev_iload_n (k0 := 1) rfl d_R_flies_67 ?_
  refine cw_iconst 0 d_R_flies_68 rfl ?_
  obtain ⟨r12, hr12, h⟩ := bind_some9 h
  refine cv_V (d := d + 1) (mc1 := 0) (ms1 := 0) (mc := 0) (ms := 0) [.inl (.int x1), .inl (.int 0)] hG v_13 rfl lk_ProphecyShopModel_84 (w_R_of (d + 1) hG hr12) rfl rfl d_R_flies_69 (aft_ro ?_)
  refine Ev.at (pc' := 72) rfl (Ev.cong (st' := [.inl (.int r12), .inl (.int 3), .inl (.int r1), .inr (0, off 13 0)]) ?_ rfl rfl)
  obtain ⟨r13, hr13, h⟩ := bind_some9 h
  refine cv_V (d := d + 1) (mc1 := 0) (ms1 := 0) (mc := 0) (ms := 0) [.inl (.int r1), .inl (.int 3), .inl (.int r12)] hG v_13 rfl lk_ProphecyShopModel_104 (w_R_putOwl (d + 1) hG hr13) rfl rfl d_R_flies_72 (aft_rw (fun G hG => ?_))
  refine Ev.at (pc' := 75) rfl (Ev.cong (st' := []) ?_ rfl rfl)
  refine ev_aload_n (k0 := 0) rfl d_R_flies_75 ?_
  refine cv_get9 (.inr (0, off 40 0)) hG v_13 fg_ProphecyShopModel_7_13 rfl rfl d_R_flies_76 ?_
  refine cw_iconst 0 d_R_flies_79 rfl ?_
  refine ev_dup2 rfl rfl d_R_flies_80 ?_
  obtain ⟨b14, h⟩ := chk_some h
  refine cv_iald hG v_40 rfl rfl b14 rfl d_R_flies_81 ?_
  refine ev_aload_n (k0 := 0) rfl d_R_flies_82 ?_
  refine ev_iload_n (k0 := 1) rfl d_R_flies_83 ?_
  obtain ⟨r15, hr15, h⟩ := bind_some9 h
  refine cv_V (d := d + 1) (mc1 := 0) (ms1 := 0) (mc := 0) (ms := 0) [.inl (.int x1)] hG v_13 rfl lk_ProphecyShopModel_91 (w_R_refund (d + 0) hG hr15) rfl rfl d_R_flies_84 (aft_ro ?_)
  refine Ev.at (pc' := 87) rfl (Ev.cong (st' := [.inl (.int r15), .inl (.int (r13 40 0 (0 : Int32).toNatClampNeg)), .inl (.int 0), .inr (0, off 40 0)]) ?_ rfl rfl)
  refine ev_isub d_R_flies_87 ?_
  obtain ⟨b16, h⟩ := chk_some h
  obtain ⟨μ17, e_μ17, h⟩ := nm_some h
  refine cv_iast hG okR v_40 rfl rfl b16 rfl d_R_flies_88 ?_
  intro G hG; rw [← e_μ17] at hG
  refine ev_aload_n (k0 := 0) rfl d_R_flies_89 ?_
  refine cv_get9 (.inr (0, off 40 0)) hG v_13 fg_ProphecyShopModel_7_13 rfl rfl d_R_flies_90 ?_
  refine cw_bipush 14 d_R_flies_93 rfl ?_
  refine ev_dup2 rfl rfl d_R_flies_95 ?_
  obtain ⟨b18, h⟩ := chk_some h
  refine cv_iald hG v_40 rfl rfl b18 rfl d_R_flies_96 ?_
  refine ev_aload_n (k0 := 0) rfl d_R_flies_97 ?_
  refine ev_iload_n (k0 := 1) rfl d_R_flies_98 ?_
  obtain ⟨r19, hr19, h⟩ := bind_some9 h
  refine cv_V (d := d + 1) (mc1 := 0) (ms1 := 0) (mc := 0) (ms := 0) [.inl (.int x1)] hG v_13 rfl lk_ProphecyShopModel_91 (w_R_refund (d + 0) hG hr19) rfl rfl d_R_flies_99 (aft_ro ?_)
  refine Ev.at (pc' := 102) rfl (Ev.cong (st' := [.inl (.int r19), .inl (.int (μ17 40 0 (14 : Int32).toNatClampNeg)), .inl (.int 14), .inr (0, off 40 0)]) ?_ rfl rfl)
  refine ev_iadd d_R_flies_102 ?_
  obtain ⟨b20, h⟩ := chk_some h
  obtain ⟨μ21, e_μ21, h⟩ := nm_some h
  refine cv_iast hG okR v_40 rfl rfl b20 rfl d_R_flies_103 ?_
  intro G hG; rw [← e_μ21] at hG
  refine ev_aload_n (k0 := 0) rfl d_R_flies_104 ?_
  refine ev_iload_n (k0 := 1) rfl d_R_flies_105 ?_
  refine cw_bipush 7 d_R_flies_106 rfl ?_
  refine cw_iconst 3 d_R_flies_108 rfl ?_
  obtain ⟨r22, hr22, h⟩ := bind_some9 h
  refine cv_V (d := d + 1) (mc1 := 0) (ms1 := 0) (mc := 0) (ms := 0) [.inl (.int x1), .inl (.int 7), .inl (.int 3)] hG v_13 rfl lk_ProphecyShopModel_80 (w_R_puts (d + 1) hG hr22) rfl rfl d_R_flies_109 (aft_rw (fun G hG => ?_))
  refine Ev.at (pc' := 112) rfl (Ev.cong (st' := []) ?_ rfl rfl)
  have hP := kE _ (Option.some.inj h).symm
  exact ev_return (st := []) rfl d_R_flies_112 (by rw [hP]; exact ⟨rfl, hG, rfl⟩)

/-- ProphecyShopModel.handles -/
def s_R_handles_74 (x1 : Int32) (x2 : Int32) (x3 : Int32) (μ : Mem) : Option ((Int32 × Mem) ⊕ (Mem)) :=
  chk (inb 12 524) (if (μ 40 0 (12 : Int32).toNatClampNeg) ≤ x3 then (some (.inr μ)) else (chk (inb ((500 + x3) + 1) 524) (chk (inb (500 + x3) 524) (nm (st3 μ 40 0 (500 + x3).toNatClampNeg (μ 40 0 ((500 + x3) + 1).toNatClampNeg)) (fun μ4 => some (.inl ((x3 + 1, μ4))))))))
def f_R_handles  (μ : Mem) : Option (Int32 × Mem) :=
  chk (inb 12 524) (if (μ 40 0 (12 : Int32).toNatClampNeg) = 0 then (some ((0, μ))) else (chk (inb 500 524) (nm (μ 40 0 (500 : Int32).toNatClampNeg : Int32) (fun v3 => ((f_R_wouldAnswer v3 μ)).bind (fun r4 => if r4 = 1 then (((f_R_idle μ)).bind (fun r14 => if r14 = ((-1)) then (some ((0, μ))) else (((f_R_puts v3 9 r4 μ)).bind (fun r15 => chk (inb 12 524) (chk (inb 12 524) (nm (st3 r15 40 0 (12 : Int32).toNatClampNeg ((r15 40 0 (12 : Int32).toNatClampNeg) - 1)) (fun μ18 => chk (inb 13 524) (chk (inb 13 524) (nm (st3 μ18 40 0 (13 : Int32).toNatClampNeg ((μ18 40 0 (13 : Int32).toNatClampNeg) + 1)) (fun μ21 => (it (fun (s : Int32 × Mem) => s_R_handles_74 v3 r4 s.1 s.2) LIM ((0, μ21))).bind (fun q22 => if r4 = 1 then (((f_R_flies v3 q22)).bind (fun r23 => some ((1, r23)))) else (some ((1, q22)))))))))))))) else (((f_R_puts v3 9 r4 μ)).bind (fun r5 => chk (inb 12 524) (chk (inb 12 524) (nm (st3 r5 40 0 (12 : Int32).toNatClampNeg ((r5 40 0 (12 : Int32).toNatClampNeg) - 1)) (fun μ8 => chk (inb 13 524) (chk (inb 13 524) (nm (st3 μ8 40 0 (13 : Int32).toNatClampNeg ((μ8 40 0 (13 : Int32).toNatClampNeg) + 1)) (fun μ11 => (it (fun (s : Int32 × Mem) => s_R_handles_74 v3 r4 s.1 s.2) LIM ((0, μ11))).bind (fun q12 => if r4 = 1 then (((f_R_flies v3 q12)).bind (fun r13 => some ((1, r13)))) else (some ((1, q12)))))))))))))))))
set_option maxRecDepth 100000 in
set_option maxHeartbeats 4000000 in
theorem ws_R_handles_74 {g : GL} {F G : RG} {nx mc ms : Nat} {Post : RO → RM → Prop} (d : Nat) {x1 : Int32} {x2 : Int32} {x3 : Int32} {μ : Mem}   {o : (Int32 × Mem) ⊕ (Mem)} (hG : LM vr 535 547 μ F G) (h : s_R_handles_74 x1 x2 x3 μ = some o)
    (kC : ∀ s', o = .inl s' → ∀ G, LM vr 535 547 s'.2 F G → Ev g (d + 3) m_R_handles 74 [some (.inr (0, off 13 0)), some (.inl (.int x1)), some (.inl (.int x2)), some (.inl (.int s'.1))] [] (G, nx) mc ms Post)
    (kX : ∀ r, o = .inr r → ∀ G, LM vr 535 547 r F G → Ev g (d + 3) m_R_handles 113 [some (.inr (0, off 13 0)), some (.inl (.int x1)), some (.inl (.int x2)), none] [] (G, nx) mc ms Post)
    : Ev g (d + 3) m_R_handles 74 [some (.inr (0, off 13 0)), some (.inl (.int x1)), some (.inl (.int x2)), some (.inl (.int x3))] [] (G, nx) mc ms Post := by
  unfold s_R_handles_74 at h
  refine ev_iload_n (k0 := 3) rfl d_R_handles_74 ?_
  refine ev_aload_n (k0 := 0) rfl d_R_handles_75 ?_
  refine cv_get9 (.inr (0, off 40 0)) hG v_13 fg_ProphecyShopModel_7_13 rfl rfl d_R_handles_76 ?_
  refine cw_bipush 12 d_R_handles_79 rfl ?_
  obtain ⟨b1, h⟩ := chk_some h
  refine cv_iald hG v_40 rfl rfl b1 rfl d_R_handles_81 ?_
  refine ev_icmp_ge (tgt := 113) (by decide) d_R_handles_82 (fun c => ?_) (fun c => ?_)
  · rw [if_pos c] at h
    exact Ev.sub (.s (.s (.s (.n LSb.z)))) (kX _ (Option.some.inj h).symm G hG)
  · rw [if_neg c] at h
    refine ev_aload_n (k0 := 0) rfl d_R_handles_85 ?_
    refine cv_get9 (.inr (0, off 40 0)) hG v_13 fg_ProphecyShopModel_7_13 rfl rfl d_R_handles_86 ?_
    refine cw_sipush 500 d_R_handles_89 rfl ?_
    refine ev_iload_n (k0 := 3) rfl d_R_handles_92 ?_
    refine ev_iadd d_R_handles_93 ?_
    refine ev_aload_n (k0 := 0) rfl d_R_handles_94 ?_
    refine cv_get9 (.inr (0, off 40 0)) hG v_13 fg_ProphecyShopModel_7_13 rfl rfl d_R_handles_95 ?_
    refine cw_sipush 500 d_R_handles_98 rfl ?_
    refine ev_iload_n (k0 := 3) rfl d_R_handles_101 ?_
    refine ev_iadd d_R_handles_102 ?_
    refine cw_iconst 1 d_R_handles_103 rfl ?_
    refine Ev.at (pc' := 104) rfl ?_
    refine ev_iadd d_R_handles_104 ?_
    obtain ⟨b2, h⟩ := chk_some h
    refine cv_iald hG v_40 rfl rfl b2 rfl d_R_handles_105 ?_
    obtain ⟨b3, h⟩ := chk_some h
    obtain ⟨μ4, e_μ4, h⟩ := nm_some h
    refine cv_iast hG okR v_40 rfl rfl b3 rfl d_R_handles_106 ?_
    intro G hG; rw [← e_μ4] at hG
    refine cw_iincN 3 1 [some (.inr (0, off 13 0)), some (.inl (.int x1)), some (.inl (.int x2)), some (.inl (.int (x3 + 1)))] d_R_handles_107 rfl rfl rfl rfl rfl ?_
    refine ev_goto (tgt := 74) (by decide) d_R_handles_110 ?_
    exact kC _ (Option.some.inj h).symm G hG
set_option maxRecDepth 100000 in
set_option maxHeartbeats 4000000 in
theorem w_R_handles {g : GL} {F G : RG} {nx : Nat} (d : Nat)  {μ : Mem}   {o : Int32 × Mem} (hG : LM vr 535 547 μ F G) (h : f_R_handles  μ = some o) : Mt g (d + 3) m_R_handles [.inr (0, off 13 0)] (G, nx) 0 0 (pRW vr 535 547 (rI o.1) o.2 F nx) := by
  unfold f_R_handles at h
  have kE : ∀ v, o = v → pRW vr 535 547 (rI o.1) o.2 F nx = pRW vr 535 547 (rI v.1) v.2 F nx := fun v e => by rw [e]
  refine Mt.of9 [some (.inr (0, off 13 0)), none, none, none] (by decide +kernel) rfl rfl rfl rfl ?_
  refine ev_aload_n (k0 := 0) rfl d_R_handles_0 ?_
  refine cv_get9 (.inr (0, off 40 0)) hG v_13 fg_ProphecyShopModel_7_13 rfl rfl d_R_handles_1 ?_
  refine cw_bipush 12 d_R_handles_4 rfl ?_
  obtain ⟨b1, h⟩ := chk_some h
  refine cv_iald hG v_40 rfl rfl b1 rfl d_R_handles_6 ?_
  refine ev_if_ne (tgt := 12) (by decide) d_R_handles_7 (fun c => ?_) (fun c => ?_)
  · rw [if_neg c] at h
    refine ev_aload_n (k0 := 0) rfl d_R_handles_12 ?_
    refine cv_get9 (.inr (0, off 40 0)) hG v_13 fg_ProphecyShopModel_7_13 rfl rfl d_R_handles_13 ?_
    refine cw_sipush 500 d_R_handles_16 rfl ?_
    obtain ⟨b2, h⟩ := chk_some h
    refine cv_iald hG v_40 rfl rfl b2 rfl d_R_handles_19 ?_
    obtain ⟨v3, e_v3, h⟩ := nm_some h
    refine cw_istoreN_n 1 v3 e_v3 [some (.inr (0, off 13 0)), some (.inl (.int v3)), none, none] d_R_handles_20 rfl rfl rfl ?_
    refine ev_aload_n (k0 := 0) rfl d_R_handles_21 ?_
    refine ev_iload_n (k0 := 1) rfl d_R_handles_22 ?_
    obtain ⟨r4, hr4, h⟩ := bind_some9 h
    refine cv_V (d := d + 2) (mc1 := 0) (ms1 := 0) (mc := 0) (ms := 0) [.inl (.int v3)] hG v_13 rfl lk_ProphecyShopModel_107 (w_R_wouldAnswer (d + 0) hG hr4) rfl rfl d_R_handles_23 (aft_ro ?_)
    refine Ev.at (pc' := 26) rfl (Ev.cong (st' := [.inl (.int r4)]) ?_ rfl rfl)
    refine cw_istoreN_n 2 r4 rfl [some (.inr (0, off 13 0)), some (.inl (.int v3)), some (.inl (.int r4)), none] d_R_handles_26 rfl rfl rfl ?_
    refine ev_iload_n (k0 := 2) rfl d_R_handles_27 ?_
    refine cw_iconst 1 d_R_handles_28 rfl ?_
    refine ev_icmp_ne (tgt := 42) (by decide) d_R_handles_29 (fun c => ?_) (fun c => ?_)
    · rw [if_neg c] at h
      refine ev_aload_n (k0 := 0) rfl d_R_handles_42 ?_
      refine ev_iload_n (k0 := 1) rfl d_R_handles_43 ?_
      refine cw_bipush 9 d_R_handles_44 rfl ?_
      refine ev_iload_n (k0 := 2) rfl d_R_handles_46 ?_
      obtain ⟨r5, hr5, h⟩ := bind_some9 h
      refine cv_V (d := d + 2) (mc1 := 0) (ms1 := 0) (mc := 0) (ms := 0) [.inl (.int v3), .inl (.int 9), .inl (.int r4)] hG v_13 rfl lk_ProphecyShopModel_80 (w_R_puts (d + 2) hG hr5) rfl rfl d_R_handles_47 (aft_rw (fun G hG => ?_))
      refine Ev.at (pc' := 50) rfl (Ev.cong (st' := []) ?_ rfl rfl)
      refine ev_aload_n (k0 := 0) rfl d_R_handles_50 ?_
      refine cv_get9 (.inr (0, off 40 0)) hG v_13 fg_ProphecyShopModel_7_13 rfl rfl d_R_handles_51 ?_
      refine cw_bipush 12 d_R_handles_54 rfl ?_
      refine ev_dup2 rfl rfl d_R_handles_56 ?_
      obtain ⟨b6, h⟩ := chk_some h
      refine cv_iald hG v_40 rfl rfl b6 rfl d_R_handles_57 ?_
      refine cw_iconst 1 d_R_handles_58 rfl ?_
      refine ev_isub d_R_handles_59 ?_
      obtain ⟨b7, h⟩ := chk_some h
      obtain ⟨μ8, e_μ8, h⟩ := nm_some h
      refine cv_iast hG okR v_40 rfl rfl b7 rfl d_R_handles_60 ?_
      intro G hG; rw [← e_μ8] at hG
      refine ev_aload_n (k0 := 0) rfl d_R_handles_61 ?_
      refine cv_get9 (.inr (0, off 40 0)) hG v_13 fg_ProphecyShopModel_7_13 rfl rfl d_R_handles_62 ?_
      refine cw_bipush 13 d_R_handles_65 rfl ?_
      refine Ev.at (pc' := 67) rfl ?_
      refine ev_dup2 rfl rfl d_R_handles_67 ?_
      obtain ⟨b9, h⟩ := chk_some h
      refine cv_iald hG v_40 rfl rfl b9 rfl d_R_handles_68 ?_
      refine cw_iconst 1 d_R_handles_69 rfl ?_
      refine ev_iadd d_R_handles_70 ?_
      obtain ⟨b10, h⟩ := chk_some h
      obtain ⟨μ11, e_μ11, h⟩ := nm_some h
      refine cv_iast hG okR v_40 rfl rfl b10 rfl d_R_handles_71 ?_
      intro G hG; rw [← e_μ11] at hG
      refine cw_iconst 0 d_R_handles_72 rfl ?_
      refine cw_istoreN_n 3 0 rfl [some (.inr (0, off 13 0)), some (.inl (.int v3)), some (.inl (.int r4)), some (.inl (.int 0))] d_R_handles_73 rfl rfl rfl ?_
      obtain ⟨q12, hl, h⟩ := bind_some9 h
      refine it_ev (W := fun (s : Int32 × Mem) => ∀ G, LM vr 535 547 s.2 F G → Ev g (d + 3) m_R_handles 74 [some (.inr (0, off 13 0)), some (.inl (.int v3)), some (.inl (.int r4)), some (.inl (.int s.1))] [] (G, nx) 0 0 (pRW vr 535 547 (rI o.1) o.2 F nx)) (X := fun z => z = q12) rfl (fun s9 o9 hs kC9 kX9 => ?_) LIM _ hl G hG
      intro G hG
      refine ws_R_handles_74 d  hG hs kC9 (fun r_ e G hG => ?_)
      · obtain rfl := (kX9 _ e).symm
        refine ev_iload_n (k0 := 2) rfl d_R_handles_113 ?_
        refine cw_iconst 1 d_R_handles_114 rfl ?_
        refine ev_icmp_ne (tgt := 123) (by decide) d_R_handles_115 (fun c => ?_) (fun c => ?_)
        · rw [if_neg c] at h
          refine cw_iconst 1 d_R_handles_123 rfl ?_
          have hP := kE _ (Option.some.inj h).symm
          exact ev_ireturn (st := []) rfl rfl d_R_handles_124 (by rw [hP]; exact ⟨rfl, hG, rfl⟩)
        · rw [if_pos c] at h
          refine ev_aload_n (k0 := 0) rfl d_R_handles_118 ?_
          refine ev_iload_n (k0 := 1) rfl d_R_handles_119 ?_
          obtain ⟨r13, hr13, h⟩ := bind_some9 h
          refine cv_V (d := d + 2) (mc1 := 0) (ms1 := 0) (mc := 0) (ms := 0) [.inl (.int v3)] hG v_13 rfl lk_ProphecyShopModel_110 (w_R_flies (d + 0) hG hr13) rfl rfl d_R_handles_120 (aft_rw (fun G hG => ?_))
          refine Ev.at (pc' := 123) rfl (Ev.cong (st' := []) ?_ rfl rfl)
          refine cw_iconst 1 d_R_handles_123 rfl ?_
          have hP := kE _ (Option.some.inj h).symm
          exact ev_ireturn (st := []) rfl rfl d_R_handles_124 (by rw [hP]; exact ⟨rfl, hG, rfl⟩)
    · rw [if_pos c] at h
      refine ev_aload_n (k0 := 0) rfl d_R_handles_32 ?_
      obtain ⟨r14, hr14, h⟩ := bind_some9 h
      refine cv_V (d := d + 2) (mc1 := 0) (ms1 := 0) (mc := 0) (ms := 0) [] hG v_13 rfl lk_ProphecyShopModel_98 (w_R_idle (d + 1) hG hr14) rfl rfl d_R_handles_33 (aft_ro ?_)
      refine Ev.at (pc' := 36) rfl (Ev.cong (st' := [.inl (.int r14)]) ?_ rfl rfl)
      refine cw_iconst (-1) d_R_handles_36 rfl ?_
      refine ev_icmp_ne (tgt := 42) (by decide) d_R_handles_37 (fun c => ?_) (fun c => ?_)
      · rw [if_neg c] at h
        refine ev_aload_n (k0 := 0) rfl d_R_handles_42 ?_
        refine ev_iload_n (k0 := 1) rfl d_R_handles_43 ?_
        refine cw_bipush 9 d_R_handles_44 rfl ?_
        refine ev_iload_n (k0 := 2) rfl d_R_handles_46 ?_
        obtain ⟨r15, hr15, h⟩ := bind_some9 h
        refine cv_V (d := d + 2) (mc1 := 0) (ms1 := 0) (mc := 0) (ms := 0) [.inl (.int v3), .inl (.int 9), .inl (.int r4)] hG v_13 rfl lk_ProphecyShopModel_80 (w_R_puts (d + 2) hG hr15) rfl rfl d_R_handles_47 (aft_rw (fun G hG => ?_))
        refine Ev.at (pc' := 50) rfl (Ev.cong (st' := []) ?_ rfl rfl)
        refine ev_aload_n (k0 := 0) rfl d_R_handles_50 ?_
        refine cv_get9 (.inr (0, off 40 0)) hG v_13 fg_ProphecyShopModel_7_13 rfl rfl d_R_handles_51 ?_
        refine cw_bipush 12 d_R_handles_54 rfl ?_
        refine ev_dup2 rfl rfl d_R_handles_56 ?_
        obtain ⟨b16, h⟩ := chk_some h
        refine cv_iald hG v_40 rfl rfl b16 rfl d_R_handles_57 ?_
        refine cw_iconst 1 d_R_handles_58 rfl ?_
        refine ev_isub d_R_handles_59 ?_
        obtain ⟨b17, h⟩ := chk_some h
        obtain ⟨μ18, e_μ18, h⟩ := nm_some h
        refine cv_iast hG okR v_40 rfl rfl b17 rfl d_R_handles_60 ?_
        intro G hG; rw [← e_μ18] at hG
        refine ev_aload_n (k0 := 0) rfl d_R_handles_61 ?_
        refine cv_get9 (.inr (0, off 40 0)) hG v_13 fg_ProphecyShopModel_7_13 rfl rfl d_R_handles_62 ?_
        refine cw_bipush 13 d_R_handles_65 rfl ?_
        refine Ev.at (pc' := 67) rfl ?_
        refine ev_dup2 rfl rfl d_R_handles_67 ?_
        obtain ⟨b19, h⟩ := chk_some h
        refine cv_iald hG v_40 rfl rfl b19 rfl d_R_handles_68 ?_
        refine cw_iconst 1 d_R_handles_69 rfl ?_
        refine ev_iadd d_R_handles_70 ?_
        obtain ⟨b20, h⟩ := chk_some h
        obtain ⟨μ21, e_μ21, h⟩ := nm_some h
        refine cv_iast hG okR v_40 rfl rfl b20 rfl d_R_handles_71 ?_
        intro G hG; rw [← e_μ21] at hG
        refine cw_iconst 0 d_R_handles_72 rfl ?_
        refine cw_istoreN_n 3 0 rfl [some (.inr (0, off 13 0)), some (.inl (.int v3)), some (.inl (.int r4)), some (.inl (.int 0))] d_R_handles_73 rfl rfl rfl ?_
        obtain ⟨q22, hl, h⟩ := bind_some9 h
        refine it_ev (W := fun (s : Int32 × Mem) => ∀ G, LM vr 535 547 s.2 F G → Ev g (d + 3) m_R_handles 74 [some (.inr (0, off 13 0)), some (.inl (.int v3)), some (.inl (.int r4)), some (.inl (.int s.1))] [] (G, nx) 0 0 (pRW vr 535 547 (rI o.1) o.2 F nx)) (X := fun z => z = q22) rfl (fun s9 o9 hs kC9 kX9 => ?_) LIM _ hl G hG
        intro G hG
        refine ws_R_handles_74 d  hG hs kC9 (fun r_ e G hG => ?_)
        · obtain rfl := (kX9 _ e).symm
          refine ev_iload_n (k0 := 2) rfl d_R_handles_113 ?_
          refine cw_iconst 1 d_R_handles_114 rfl ?_
          refine ev_icmp_ne (tgt := 123) (by decide) d_R_handles_115 (fun c => ?_) (fun c => ?_)
          · rw [if_neg c] at h
            refine cw_iconst 1 d_R_handles_123 rfl ?_
            have hP := kE _ (Option.some.inj h).symm
            exact ev_ireturn (st := []) rfl rfl d_R_handles_124 (by rw [hP]; exact ⟨rfl, hG, rfl⟩)
          · rw [if_pos c] at h
            refine ev_aload_n (k0 := 0) rfl d_R_handles_118 ?_
            refine ev_iload_n (k0 := 1) rfl d_R_handles_119 ?_
            obtain ⟨r23, hr23, h⟩ := bind_some9 h
            refine cv_V (d := d + 2) (mc1 := 0) (ms1 := 0) (mc := 0) (ms := 0) [.inl (.int v3)] hG v_13 rfl lk_ProphecyShopModel_110 (w_R_flies (d + 0) hG hr23) rfl rfl d_R_handles_120 (aft_rw (fun G hG => ?_))
            refine Ev.at (pc' := 123) rfl (Ev.cong (st' := []) ?_ rfl rfl)
            refine cw_iconst 1 d_R_handles_123 rfl ?_
            have hP := kE _ (Option.some.inj h).symm
            exact ev_ireturn (st := []) rfl rfl d_R_handles_124 (by rw [hP]; exact ⟨rfl, hG, rfl⟩)
      · rw [if_pos c] at h
        refine cw_iconst 0 d_R_handles_40 rfl ?_
        have hP := kE _ (Option.some.inj h).symm
        exact ev_ireturn (st := []) rfl rfl d_R_handles_41 (by rw [hP]; exact ⟨rfl, hG, rfl⟩)
  · rw [if_pos c] at h
    refine cw_iconst 0 d_R_handles_10 rfl ?_
    have hP := kE _ (Option.some.inj h).symm
    exact ev_ireturn (st := []) rfl rfl d_R_handles_11 (by rw [hP]; exact ⟨rfl, hG, rfl⟩)

/-- ProphecyShopModel.dayPasses -/
def s_R_dayPasses_12  (x1 : Int32) (μ : Mem) : Option ((Int32 × Mem) ⊕ (Mem)) :=
  chk (inb 10 524) (if (μ 40 0 (10 : Int32).toNatClampNeg) ≤ x1 then (some (.inr μ)) else (((f_R_of x1 7 μ)).bind (fun r2 => if r2 = 0 then (((f_R_of x1 5 μ)).bind (fun r3 => chk (inb 5 524) (if (μ 40 0 (5 : Int32).toNatClampNeg) ≤ r3 then (some (.inl ((x1 + 1, μ)))) else (((f_R_of x1 3 μ)).bind (fun r5 => ((if r5 = 1 then (some (1)) else (some (0)) : Option (Int32))).bind (fun q6 => ((f_R_decides x1 q6 μ)).bind (fun r7 => some (.inl ((x1 + 1, r7)))))))))) else (some (.inl ((x1 + 1, μ)))))))
def s_R_dayPasses_76  (x1 : Int32) (μ : Mem) : Option ((Int32 × Mem) ⊕ (Mem)) :=
  chk (inb 9 524) (if (μ 40 0 (9 : Int32).toNatClampNeg) ≤ x1 then (some (.inr μ)) else (((f_R_ofOwl x1 1 μ)).bind (fun r2 => if r2 = 0 then (some (.inl ((x1 + 1, μ)))) else (((f_R_ofOwl x1 1 μ)).bind (fun r3 => ((f_R_putOwl x1 1 (r3 - 1) μ)).bind (fun r4 => ((f_R_ofOwl x1 1 r4)).bind (fun r5 => if r5 = 0 then (((f_R_lands x1 r4)).bind (fun r6 => some (.inl ((x1 + 1, r6))))) else (some (.inl ((x1 + 1, r4)))))))))))
def s_R_dayPasses_135  (x1 : Int32) (μ : Mem) : Option ((Int32 × Mem) ⊕ (Mem)) :=
  chk (inb 1 524) (if (μ 40 0 (1 : Int32).toNatClampNeg) ≤ x1 then (some (.inr μ)) else (((f_R_handles μ)).bind (fun r2 => if r2.1 = 0 then (some (.inr r2.2)) else (some (.inl ((x1 + 1, r2.2)))))))
def f_R_dayPasses  (μ : Mem) : Option (Mem) :=
  chk (inb 5 524) (chk (inb 5 524) (nm (st3 μ 40 0 (5 : Int32).toNatClampNeg ((μ 40 0 (5 : Int32).toNatClampNeg) + 1)) (fun μ3 => (it (fun (s : Int32 × Mem) => s_R_dayPasses_12 s.1 s.2) LIM ((0, μ3))).bind (fun q4 => (it (fun (s : Int32 × Mem) => s_R_dayPasses_76 s.1 s.2) LIM ((0, q4))).bind (fun q5 => (it (fun (s : Int32 × Mem) => s_R_dayPasses_135 s.1 s.2) LIM ((0, q5))).bind (fun q6 => some q6))))))
set_option maxRecDepth 100000 in
set_option maxHeartbeats 4000000 in
theorem ws_R_dayPasses_12 {g : GL} {F G : RG} {nx mc ms : Nat} {Post : RO → RM → Prop} (d : Nat)  {x1 : Int32} {μ : Mem}   {o : (Int32 × Mem) ⊕ (Mem)} (hG : LM vr 535 547 μ F G) (h : s_R_dayPasses_12  x1 μ = some o)
    (kC : ∀ s', o = .inl s' → ∀ G, LM vr 535 547 s'.2 F G → Ev g (d + 4) m_R_dayPasses 12 [some (.inr (0, off 13 0)), some (.inl (.int s'.1))] [] (G, nx) mc ms Post)
    (kX : ∀ r, o = .inr r → ∀ G, LM vr 535 547 r F G → Ev g (d + 4) m_R_dayPasses 74 [some (.inr (0, off 13 0)), none] [] (G, nx) mc ms Post)
    : Ev g (d + 4) m_R_dayPasses 12 [some (.inr (0, off 13 0)), some (.inl (.int x1))] [] (G, nx) mc ms Post := by
  unfold s_R_dayPasses_12 at h
  refine ev_iload_n (k0 := 1) rfl d_R_dayPasses_12 ?_
  refine ev_aload_n (k0 := 0) rfl d_R_dayPasses_13 ?_
  refine cv_get9 (.inr (0, off 40 0)) hG v_13 fg_ProphecyShopModel_7_13 rfl rfl d_R_dayPasses_14 ?_
  refine cw_bipush 10 d_R_dayPasses_17 rfl ?_
  obtain ⟨b1, h⟩ := chk_some h
  refine cv_iald hG v_40 rfl rfl b1 rfl d_R_dayPasses_19 ?_
  refine ev_icmp_ge (tgt := 74) (by decide) d_R_dayPasses_20 (fun c => ?_) (fun c => ?_)
  · rw [if_pos c] at h
    exact Ev.sub (.s (.n LSb.z)) (kX _ (Option.some.inj h).symm G hG)
  · rw [if_neg c] at h
    refine ev_aload_n (k0 := 0) rfl d_R_dayPasses_23 ?_
    refine ev_iload_n (k0 := 1) rfl d_R_dayPasses_24 ?_
    refine cw_bipush 7 d_R_dayPasses_25 rfl ?_
    obtain ⟨r2, hr2, h⟩ := bind_some9 h
    refine Ev.z9 ?_
    refine cv_V (d := d + 3) (mc1 := 0) (ms1 := 0) (mc := mc) (ms := ms) [.inl (.int x1), .inl (.int 7)] hG v_13 rfl lk_ProphecyShopModel_84 (w_R_of (d + 3) hG hr2) rfl rfl d_R_dayPasses_27 (aft_ro ?_)
    refine Ev.at (pc' := 30) rfl (Ev.cong (st' := [.inl (.int r2)]) ?_ rfl rfl)
    refine ev_if_ne (tgt := 68) (by decide) d_R_dayPasses_30 (fun c => ?_) (fun c => ?_)
    · rw [if_neg c] at h
      refine cw_iincN 1 1 [some (.inr (0, off 13 0)), some (.inl (.int (x1 + 1)))] d_R_dayPasses_68 rfl rfl rfl rfl rfl ?_
      refine ev_goto (tgt := 12) (by decide) d_R_dayPasses_71 ?_
      exact kC _ (Option.some.inj h).symm G hG
    · rw [if_pos c] at h
      refine ev_aload_n (k0 := 0) rfl d_R_dayPasses_33 ?_
      refine ev_iload_n (k0 := 1) rfl d_R_dayPasses_34 ?_
      refine cw_iconst 5 d_R_dayPasses_35 rfl ?_
      obtain ⟨r3, hr3, h⟩ := bind_some9 h
      refine Ev.z9 ?_
      refine cv_V (d := d + 3) (mc1 := 0) (ms1 := 0) (mc := mc) (ms := ms) [.inl (.int x1), .inl (.int 5)] hG v_13 rfl lk_ProphecyShopModel_84 (w_R_of (d + 3) hG hr3) rfl rfl d_R_dayPasses_36 (aft_ro ?_)
      refine Ev.at (pc' := 39) rfl (Ev.cong (st' := [.inl (.int r3)]) ?_ rfl rfl)
      refine ev_aload_n (k0 := 0) rfl d_R_dayPasses_39 ?_
      refine cv_get9 (.inr (0, off 40 0)) hG v_13 fg_ProphecyShopModel_7_13 rfl rfl d_R_dayPasses_40 ?_
      refine cw_iconst 5 d_R_dayPasses_43 rfl ?_
      obtain ⟨b4, h⟩ := chk_some h
      refine cv_iald hG v_40 rfl rfl b4 rfl d_R_dayPasses_44 ?_
      refine ev_icmp_ge (tgt := 68) (by decide) d_R_dayPasses_45 (fun c => ?_) (fun c => ?_)
      · rw [if_pos c] at h
        refine cw_iincN 1 1 [some (.inr (0, off 13 0)), some (.inl (.int (x1 + 1)))] d_R_dayPasses_68 rfl rfl rfl rfl rfl ?_
        refine ev_goto (tgt := 12) (by decide) d_R_dayPasses_71 ?_
        exact kC _ (Option.some.inj h).symm G hG
      · rw [if_neg c] at h
        refine ev_aload_n (k0 := 0) rfl d_R_dayPasses_48 ?_
        refine ev_iload_n (k0 := 1) rfl d_R_dayPasses_49 ?_
        refine ev_aload_n (k0 := 0) rfl d_R_dayPasses_50 ?_
        refine ev_iload_n (k0 := 1) rfl d_R_dayPasses_51 ?_
        refine cw_iconst 3 d_R_dayPasses_52 rfl ?_
        obtain ⟨r5, hr5, h⟩ := bind_some9 h
        refine Ev.z9 ?_
        refine cv_V (d := d + 3) (mc1 := 0) (ms1 := 0) (mc := mc) (ms := ms) [.inl (.int x1), .inl (.int 3)] hG v_13 rfl lk_ProphecyShopModel_84 (w_R_of (d + 3) hG hr5) rfl rfl d_R_dayPasses_53 (aft_ro ?_)
        refine Ev.at (pc' := 56) rfl (Ev.cong (st' := [.inl (.int r5), .inl (.int x1), .inr (0, off 13 0)]) ?_ rfl rfl)
        refine cw_iconst 1 d_R_dayPasses_56 rfl ?_
        obtain ⟨q6, hj, h⟩ := bind_some9 h
        have K_q6 : Ev g (d + 4) m_R_dayPasses 65 [some (.inr (0, off 13 0)), some (.inl (.int x1))] [.inl (.int q6), .inl (.int x1), .inr (0, off 13 0)] (G, nx) mc ms Post := by
          obtain ⟨r7, hr7, h⟩ := bind_some9 h
          refine Ev.z9 ?_
          refine cv_V (d := d + 3) (mc1 := 0) (ms1 := 0) (mc := mc) (ms := ms) [.inl (.int x1), .inl (.int q6)] hG v_13 rfl lk_ProphecyShopModel_114 (w_R_decides (d + 2) hG hr7) rfl rfl d_R_dayPasses_65 (aft_rw (fun G hG => ?_))
          refine Ev.at (pc' := 68) rfl (Ev.cong (st' := []) ?_ rfl rfl)
          refine cw_iincN 1 1 [some (.inr (0, off 13 0)), some (.inl (.int (x1 + 1)))] d_R_dayPasses_68 rfl rfl rfl rfl rfl ?_
          refine ev_goto (tgt := 12) (by decide) d_R_dayPasses_71 ?_
          exact kC _ (Option.some.inj h).symm G hG
        clear h
        have h := hj
        refine ev_icmp_ne (tgt := 64) (by decide) d_R_dayPasses_57 (fun c => ?_) (fun c => ?_)
        · rw [if_neg c] at h
          refine cw_iconst 0 d_R_dayPasses_64 rfl ?_
          obtain rfl := Option.some.inj h
          exact K_q6
        · rw [if_pos c] at h
          refine cw_iconst 1 d_R_dayPasses_60 rfl ?_
          refine ev_goto (tgt := 65) (by decide) d_R_dayPasses_61 ?_
          obtain rfl := Option.some.inj h
          exact K_q6
set_option maxRecDepth 100000 in
set_option maxHeartbeats 4000000 in
theorem ws_R_dayPasses_76 {g : GL} {F G : RG} {nx mc ms : Nat} {Post : RO → RM → Prop} (d : Nat)  {x1 : Int32} {μ : Mem}   {o : (Int32 × Mem) ⊕ (Mem)} (hG : LM vr 535 547 μ F G) (h : s_R_dayPasses_76  x1 μ = some o)
    (kC : ∀ s', o = .inl s' → ∀ G, LM vr 535 547 s'.2 F G → Ev g (d + 4) m_R_dayPasses 76 [some (.inr (0, off 13 0)), some (.inl (.int s'.1))] [] (G, nx) mc ms Post)
    (kX : ∀ r, o = .inr r → ∀ G, LM vr 535 547 r F G → Ev g (d + 4) m_R_dayPasses 133 [some (.inr (0, off 13 0)), none] [] (G, nx) mc ms Post)
    : Ev g (d + 4) m_R_dayPasses 76 [some (.inr (0, off 13 0)), some (.inl (.int x1))] [] (G, nx) mc ms Post := by
  unfold s_R_dayPasses_76 at h
  refine ev_iload_n (k0 := 1) rfl d_R_dayPasses_76 ?_
  refine ev_aload_n (k0 := 0) rfl d_R_dayPasses_77 ?_
  refine cv_get9 (.inr (0, off 40 0)) hG v_13 fg_ProphecyShopModel_7_13 rfl rfl d_R_dayPasses_78 ?_
  refine cw_bipush 9 d_R_dayPasses_81 rfl ?_
  obtain ⟨b1, h⟩ := chk_some h
  refine cv_iald hG v_40 rfl rfl b1 rfl d_R_dayPasses_83 ?_
  refine ev_icmp_ge (tgt := 133) (by decide) d_R_dayPasses_84 (fun c => ?_) (fun c => ?_)
  · rw [if_pos c] at h
    exact Ev.sub (.s (.n LSb.z)) (kX _ (Option.some.inj h).symm G hG)
  · rw [if_neg c] at h
    refine ev_aload_n (k0 := 0) rfl d_R_dayPasses_87 ?_
    refine ev_iload_n (k0 := 1) rfl d_R_dayPasses_88 ?_
    refine cw_iconst 1 d_R_dayPasses_89 rfl ?_
    obtain ⟨r2, hr2, h⟩ := bind_some9 h
    refine Ev.z9 ?_
    refine cv_V (d := d + 3) (mc1 := 0) (ms1 := 0) (mc := mc) (ms := ms) [.inl (.int x1), .inl (.int 1)] hG v_13 rfl lk_ProphecyShopModel_95 (w_R_ofOwl (d + 3) hG hr2) rfl rfl d_R_dayPasses_90 (aft_ro ?_)
    refine Ev.at (pc' := 93) rfl (Ev.cong (st' := [.inl (.int r2)]) ?_ rfl rfl)
    refine ev_if_ne (tgt := 99) (by decide) d_R_dayPasses_93 (fun c => ?_) (fun c => ?_)
    · rw [if_neg c] at h
      refine ev_aload_n (k0 := 0) rfl d_R_dayPasses_99 ?_
      refine ev_iload_n (k0 := 1) rfl d_R_dayPasses_100 ?_
      refine cw_iconst 1 d_R_dayPasses_101 rfl ?_
      refine ev_aload_n (k0 := 0) rfl d_R_dayPasses_102 ?_
      refine ev_iload_n (k0 := 1) rfl d_R_dayPasses_103 ?_
      refine cw_iconst 1 d_R_dayPasses_104 rfl ?_
      obtain ⟨r3, hr3, h⟩ := bind_some9 h
      refine Ev.z9 ?_
      refine cv_V (d := d + 3) (mc1 := 0) (ms1 := 0) (mc := mc) (ms := ms) [.inl (.int x1), .inl (.int 1)] hG v_13 rfl lk_ProphecyShopModel_95 (w_R_ofOwl (d + 3) hG hr3) rfl rfl d_R_dayPasses_105 (aft_ro ?_)
      refine Ev.at (pc' := 108) rfl (Ev.cong (st' := [.inl (.int r3), .inl (.int 1), .inl (.int x1), .inr (0, off 13 0)]) ?_ rfl rfl)
      refine cw_iconst 1 d_R_dayPasses_108 rfl ?_
      refine ev_isub d_R_dayPasses_109 ?_
      obtain ⟨r4, hr4, h⟩ := bind_some9 h
      refine Ev.z9 ?_
      refine cv_V (d := d + 3) (mc1 := 0) (ms1 := 0) (mc := mc) (ms := ms) [.inl (.int x1), .inl (.int 1), .inl (.int (r3 - 1))] hG v_13 rfl lk_ProphecyShopModel_104 (w_R_putOwl (d + 3) hG hr4) rfl rfl d_R_dayPasses_110 (aft_rw (fun G hG => ?_))
      refine Ev.at (pc' := 113) rfl (Ev.cong (st' := []) ?_ rfl rfl)
      refine ev_aload_n (k0 := 0) rfl d_R_dayPasses_113 ?_
      refine ev_iload_n (k0 := 1) rfl d_R_dayPasses_114 ?_
      refine cw_iconst 1 d_R_dayPasses_115 rfl ?_
      obtain ⟨r5, hr5, h⟩ := bind_some9 h
      refine Ev.z9 ?_
      refine cv_V (d := d + 3) (mc1 := 0) (ms1 := 0) (mc := mc) (ms := ms) [.inl (.int x1), .inl (.int 1)] hG v_13 rfl lk_ProphecyShopModel_95 (w_R_ofOwl (d + 3) hG hr5) rfl rfl d_R_dayPasses_116 (aft_ro ?_)
      refine Ev.at (pc' := 119) rfl (Ev.cong (st' := [.inl (.int r5)]) ?_ rfl rfl)
      refine ev_if_ne (tgt := 127) (by decide) d_R_dayPasses_119 (fun c => ?_) (fun c => ?_)
      · rw [if_neg c] at h
        refine cw_iincN 1 1 [some (.inr (0, off 13 0)), some (.inl (.int (x1 + 1)))] d_R_dayPasses_127 rfl rfl rfl rfl rfl ?_
        refine ev_goto (tgt := 76) (by decide) d_R_dayPasses_130 ?_
        exact kC _ (Option.some.inj h).symm G hG
      · rw [if_pos c] at h
        refine ev_aload_n (k0 := 0) rfl d_R_dayPasses_122 ?_
        refine ev_iload_n (k0 := 1) rfl d_R_dayPasses_123 ?_
        obtain ⟨r6, hr6, h⟩ := bind_some9 h
        refine Ev.z9 ?_
        refine cv_V (d := d + 3) (mc1 := 0) (ms1 := 0) (mc := mc) (ms := ms) [.inl (.int x1)] hG v_13 rfl lk_ProphecyShopModel_118 (w_R_lands (d + 2) hG hr6) rfl rfl d_R_dayPasses_124 (aft_rw (fun G hG => ?_))
        refine Ev.at (pc' := 127) rfl (Ev.cong (st' := []) ?_ rfl rfl)
        refine cw_iincN 1 1 [some (.inr (0, off 13 0)), some (.inl (.int (x1 + 1)))] d_R_dayPasses_127 rfl rfl rfl rfl rfl ?_
        refine ev_goto (tgt := 76) (by decide) d_R_dayPasses_130 ?_
        exact kC _ (Option.some.inj h).symm G hG
    · rw [if_pos c] at h
      refine ev_goto (tgt := 127) (by decide) d_R_dayPasses_96 ?_
      refine cw_iincN 1 1 [some (.inr (0, off 13 0)), some (.inl (.int (x1 + 1)))] d_R_dayPasses_127 rfl rfl rfl rfl rfl ?_
      refine ev_goto (tgt := 76) (by decide) d_R_dayPasses_130 ?_
      exact kC _ (Option.some.inj h).symm G hG
set_option maxRecDepth 100000 in
set_option maxHeartbeats 4000000 in
theorem ws_R_dayPasses_135 {g : GL} {F G : RG} {nx mc ms : Nat} {Post : RO → RM → Prop} (d : Nat)  {x1 : Int32} {μ : Mem}   {o : (Int32 × Mem) ⊕ (Mem)} (hG : LM vr 535 547 μ F G) (h : s_R_dayPasses_135  x1 μ = some o)
    (kC : ∀ s', o = .inl s' → ∀ G, LM vr 535 547 s'.2 F G → Ev g (d + 4) m_R_dayPasses 135 [some (.inr (0, off 13 0)), some (.inl (.int s'.1))] [] (G, nx) mc ms Post)
    (kX : ∀ r, o = .inr r → ∀ G, LM vr 535 547 r F G → Ev g (d + 4) m_R_dayPasses 158 [none, none] [] (G, nx) mc ms Post)
    : Ev g (d + 4) m_R_dayPasses 135 [some (.inr (0, off 13 0)), some (.inl (.int x1))] [] (G, nx) mc ms Post := by
  unfold s_R_dayPasses_135 at h
  refine ev_iload_n (k0 := 1) rfl d_R_dayPasses_135 ?_
  refine ev_aload_n (k0 := 0) rfl d_R_dayPasses_136 ?_
  refine cv_get9 (.inr (0, off 40 0)) hG v_13 fg_ProphecyShopModel_7_13 rfl rfl d_R_dayPasses_137 ?_
  refine cw_iconst 1 d_R_dayPasses_140 rfl ?_
  obtain ⟨b1, h⟩ := chk_some h
  refine cv_iald hG v_40 rfl rfl b1 rfl d_R_dayPasses_141 ?_
  refine ev_icmp_ge (tgt := 158) (by decide) d_R_dayPasses_142 (fun c => ?_) (fun c => ?_)
  · rw [if_pos c] at h
    exact Ev.sub (.n (.n LSb.z)) (kX _ (Option.some.inj h).symm G hG)
  · rw [if_neg c] at h
    refine ev_aload_n (k0 := 0) rfl d_R_dayPasses_145 ?_
    obtain ⟨r2, hr2, h⟩ := bind_some9 h
    refine Ev.z9 ?_
    refine cv_V (d := d + 3) (mc1 := 0) (ms1 := 0) (mc := mc) (ms := ms) [] hG v_13 rfl lk_ProphecyShopModel_121 (w_R_handles (d + 0) hG hr2) rfl rfl d_R_dayPasses_146 (aft_rw (fun G hG => ?_))
    refine Ev.at (pc' := 149) rfl (Ev.cong (st' := [.inl (.int r2.1)]) ?_ rfl rfl)
    refine ev_if_eq (tgt := 158) (by decide) d_R_dayPasses_149 (fun c => ?_) (fun c => ?_)
    · rw [if_pos c] at h
      exact Ev.sub (.n (.n LSb.z)) (kX _ (Option.some.inj h).symm G hG)
    · rw [if_neg c] at h
      refine cw_iincN 1 1 [some (.inr (0, off 13 0)), some (.inl (.int (x1 + 1)))] d_R_dayPasses_152 rfl rfl rfl rfl rfl ?_
      refine ev_goto (tgt := 135) (by decide) d_R_dayPasses_155 ?_
      exact kC _ (Option.some.inj h).symm G hG
set_option maxRecDepth 100000 in
set_option maxHeartbeats 4000000 in
theorem w_R_dayPasses {g : GL} {F G : RG} {nx : Nat} (d : Nat)  {μ : Mem}   {o : Mem} (hG : LM vr 535 547 μ F G) (h : f_R_dayPasses  μ = some o) : Mt g (d + 4) m_R_dayPasses [.inr (0, off 13 0)] (G, nx) 0 0 (pRW vr 535 547 rV o F nx) := by
  unfold f_R_dayPasses at h
  have kE : ∀ v, o = v → pRW vr 535 547 rV o F nx = pRW vr 535 547 rV v F nx := fun v e => by rw [e]
  refine Mt.of9 [some (.inr (0, off 13 0)), none] (by decide +kernel) rfl rfl rfl rfl ?_
  refine ev_aload_n (k0 := 0) rfl d_R_dayPasses_0 ?_
  refine cv_get9 (.inr (0, off 40 0)) hG v_13 fg_ProphecyShopModel_7_13 rfl rfl d_R_dayPasses_1 ?_
  refine cw_iconst 5 d_R_dayPasses_4 rfl ?_
  refine ev_dup2 rfl rfl d_R_dayPasses_5 ?_
  obtain ⟨b1, h⟩ := chk_some h
  refine cv_iald hG v_40 rfl rfl b1 rfl d_R_dayPasses_6 ?_
  refine cw_iconst 1 d_R_dayPasses_7 rfl ?_
  refine ev_iadd d_R_dayPasses_8 ?_
  obtain ⟨b2, h⟩ := chk_some h
  obtain ⟨μ3, e_μ3, h⟩ := nm_some h
  refine cv_iast hG okR v_40 rfl rfl b2 rfl d_R_dayPasses_9 ?_
  intro G hG; rw [← e_μ3] at hG
  refine cw_iconst 0 d_R_dayPasses_10 rfl ?_
  refine cw_istoreN_n 1 0 rfl [some (.inr (0, off 13 0)), some (.inl (.int 0))] d_R_dayPasses_11 rfl rfl rfl ?_
  obtain ⟨q4, hl, h⟩ := bind_some9 h
  refine it_ev (W := fun (s : Int32 × Mem) => ∀ G, LM vr 535 547 s.2 F G → Ev g (d + 4) m_R_dayPasses 12 [some (.inr (0, off 13 0)), some (.inl (.int s.1))] [] (G, nx) 0 0 (pRW vr 535 547 rV o F nx)) (X := fun z => z = q4) rfl (fun s9 o9 hs kC9 kX9 => ?_) LIM _ hl G hG
  intro G hG
  refine ws_R_dayPasses_12 d  hG hs kC9 (fun r_ e G hG => ?_)
  · obtain rfl := (kX9 _ e).symm
    refine cw_iconst 0 d_R_dayPasses_74 rfl ?_
    refine cw_istoreN_n 1 0 rfl [some (.inr (0, off 13 0)), some (.inl (.int 0))] d_R_dayPasses_75 rfl rfl rfl ?_
    obtain ⟨q5, hl, h⟩ := bind_some9 h
    refine it_ev (W := fun (s : Int32 × Mem) => ∀ G, LM vr 535 547 s.2 F G → Ev g (d + 4) m_R_dayPasses 76 [some (.inr (0, off 13 0)), some (.inl (.int s.1))] [] (G, nx) 0 0 (pRW vr 535 547 rV o F nx)) (X := fun z => z = q5) rfl (fun s9 o9 hs kC9 kX9 => ?_) LIM _ hl G hG
    intro G hG
    refine ws_R_dayPasses_76 d  hG hs kC9 (fun r_ e G hG => ?_)
    · obtain rfl := (kX9 _ e).symm
      refine cw_iconst 0 d_R_dayPasses_133 rfl ?_
      refine cw_istoreN_n 1 0 rfl [some (.inr (0, off 13 0)), some (.inl (.int 0))] d_R_dayPasses_134 rfl rfl rfl ?_
      obtain ⟨q6, hl, h⟩ := bind_some9 h
      refine it_ev (W := fun (s : Int32 × Mem) => ∀ G, LM vr 535 547 s.2 F G → Ev g (d + 4) m_R_dayPasses 135 [some (.inr (0, off 13 0)), some (.inl (.int s.1))] [] (G, nx) 0 0 (pRW vr 535 547 rV o F nx)) (X := fun z => z = q6) rfl (fun s9 o9 hs kC9 kX9 => ?_) LIM _ hl G hG
      intro G hG
      refine ws_R_dayPasses_135 d  hG hs kC9 (fun r_ e G hG => ?_)
      · obtain rfl := (kX9 _ e).symm
        have hP := kE _ (Option.some.inj h).symm
        exact ev_return (st := []) rfl d_R_dayPasses_158 (by rw [hP]; exact ⟨rfl, hG, rfl⟩)

/-- ProphecyShopModel.advancing -/
def s_R_advancing_58 (x1 : Int32) (x2 : Int32) (x3 : Int32) (μ : Mem) : Option ((Int32 × Mem) ⊕ (Mem)) :=
  if x1 ≤ x3 then (some (.inr μ)) else (((f_R_dayPasses μ)).bind (fun r1 => some (.inl ((x3 + 1, r1)))))
def f_R_advancing (x1 : Int32) (μ : Mem) : Option (Int32 × Mem) :=
  ((f_R_in x1 1 60 μ)).bind (fun r1 => ((f_R_right r1 1 μ)).bind (fun r2 => if r2.1 = 0 then (some ((0, r2.2))) else (chk (inb 5 524) (((if (9999 : Int32) < ((r2.2 40 0 (5 : Int32).toNatClampNeg) + x1) then (some (0)) else (some (1)) : Option (Int32))).bind (fun q4 => ((f_R_right q4 2 r2.2)).bind (fun r5 => if r5.1 = 0 then (some ((0, r5.2))) else (((f_R_changes r5.2)).bind (fun r6 => chk (inb 13 524) (nm (r6 40 0 (13 : Int32).toNatClampNeg : Int32) (fun v8 => (it (fun (s : Int32 × Mem) => s_R_advancing_58 x1 v8 s.1 s.2) LIM ((0, r6))).bind (fun q9 => chk (inb 13 524) (some (((q9 40 0 (13 : Int32).toNatClampNeg) - v8, q9))))))))))))))
set_option maxRecDepth 100000 in
set_option maxHeartbeats 4000000 in
theorem ws_R_advancing_58 {g : GL} {F G : RG} {nx mc ms : Nat} {Post : RO → RM → Prop} (d : Nat) {x1 : Int32} {x2 : Int32} {x3 : Int32} {μ : Mem}   {o : (Int32 × Mem) ⊕ (Mem)} (hG : LM vr 535 547 μ F G) (h : s_R_advancing_58 x1 x2 x3 μ = some o)
    (kC : ∀ s', o = .inl s' → ∀ G, LM vr 535 547 s'.2 F G → Ev g (d + 5) m_R_advancing 58 [some (.inr (0, off 13 0)), some (.inl (.int x1)), some (.inl (.int x2)), some (.inl (.int s'.1))] [] (G, nx) mc ms Post)
    (kX : ∀ r, o = .inr r → ∀ G, LM vr 535 547 r F G → Ev g (d + 5) m_R_advancing 73 [some (.inr (0, off 13 0)), none, some (.inl (.int x2)), none] [] (G, nx) mc ms Post)
    : Ev g (d + 5) m_R_advancing 58 [some (.inr (0, off 13 0)), some (.inl (.int x1)), some (.inl (.int x2)), some (.inl (.int x3))] [] (G, nx) mc ms Post := by
  unfold s_R_advancing_58 at h
  refine ev_iload_n (k0 := 3) rfl d_R_advancing_58 ?_
  refine ev_iload_n (k0 := 1) rfl d_R_advancing_59 ?_
  refine ev_icmp_ge (tgt := 73) (by decide) d_R_advancing_60 (fun c => ?_) (fun c => ?_)
  · rw [if_pos c] at h
    exact Ev.sub (.s (.n (.s (.n LSb.z)))) (kX _ (Option.some.inj h).symm G hG)
  · rw [if_neg c] at h
    refine ev_aload_n (k0 := 0) rfl d_R_advancing_63 ?_
    obtain ⟨r1, hr1, h⟩ := bind_some9 h
    refine Ev.z9 ?_
    refine cv_V (d := d + 4) (mc1 := 0) (ms1 := 0) (mc := mc) (ms := ms) [] hG v_13 rfl lk_ProphecyShopModel_370 (w_R_dayPasses (d + 0) hG hr1) rfl rfl d_R_advancing_64 (aft_rw (fun G hG => ?_))
    refine Ev.at (pc' := 67) rfl (Ev.cong (st' := []) ?_ rfl rfl)
    refine cw_iincN 3 1 [some (.inr (0, off 13 0)), some (.inl (.int x1)), some (.inl (.int x2)), some (.inl (.int (x3 + 1)))] d_R_advancing_67 rfl rfl rfl rfl rfl ?_
    refine ev_goto (tgt := 58) (by decide) d_R_advancing_70 ?_
    exact kC _ (Option.some.inj h).symm G hG
set_option maxRecDepth 100000 in
set_option maxHeartbeats 4000000 in
theorem w_R_advancing {g : GL} {F G : RG} {nx : Nat} (d : Nat) {x1 : Int32} {μ : Mem}   {o : Int32 × Mem} (hG : LM vr 535 547 μ F G) (h : f_R_advancing x1 μ = some o) : Mt g (d + 5) m_R_advancing [.inr (0, off 13 0), .inl (.int x1)] (G, nx) 0 0 (pRW vr 535 547 (rI o.1) o.2 F nx) := by
  unfold f_R_advancing at h
  have kE : ∀ v, o = v → pRW vr 535 547 (rI o.1) o.2 F nx = pRW vr 535 547 (rI v.1) v.2 F nx := fun v e => by rw [e]
  refine Mt.of9 [some (.inr (0, off 13 0)), some (.inl (.int x1)), none, none] (by decide +kernel) rfl rfl rfl rfl ?_
  refine ev_aload_n (k0 := 0) rfl d_R_advancing_0 ?_
  refine ev_iload_n (k0 := 1) rfl d_R_advancing_1 ?_
  refine cw_iconst 1 d_R_advancing_2 rfl ?_
  refine cw_bipush 60 d_R_advancing_3 rfl ?_
  obtain ⟨r1, hr1, h⟩ := bind_some9 h
  refine cw_S (d := d + 4) (mc1 := 0) (ms1 := 0) (mc := 0) (ms := 0) [.inl (.int x1), .inl (.int 1), .inl (.int 60)] lk_ProphecyShopModel_76 (w_R_in (d + 4) hG hr1) rfl rfl d_R_advancing_5 (aft_ro ?_)
  refine Ev.at (pc' := 8) rfl (Ev.cong (st' := [.inl (.int r1), .inr (0, off 13 0)]) ?_ rfl rfl)
  refine cw_iconst 1 d_R_advancing_8 rfl ?_
  obtain ⟨r2, hr2, h⟩ := bind_some9 h
  refine cv_V (d := d + 4) (mc1 := 0) (ms1 := 0) (mc := 0) (ms := 0) [.inl (.int r1), .inl (.int 1)] hG v_13 rfl lk_ProphecyShopModel_128 (w_R_right (d + 4) hG hr2) rfl rfl d_R_advancing_9 (aft_rw (fun G hG => ?_))
  refine Ev.at (pc' := 12) rfl (Ev.cong (st' := [.inl (.int r2.1)]) ?_ rfl rfl)
  refine ev_if_eq (tgt := 42) (by decide) d_R_advancing_12 (fun c => ?_) (fun c => ?_)
  · rw [if_pos c] at h
    refine cw_iconst 0 d_R_advancing_42 rfl ?_
    have hP := kE _ (Option.some.inj h).symm
    exact ev_ireturn (st := []) rfl rfl d_R_advancing_43 (by rw [hP]; exact ⟨rfl, hG, rfl⟩)
  · rw [if_neg c] at h
    refine ev_aload_n (k0 := 0) rfl d_R_advancing_15 ?_
    refine ev_aload_n (k0 := 0) rfl d_R_advancing_16 ?_
    refine cv_get9 (.inr (0, off 40 0)) hG v_13 fg_ProphecyShopModel_7_13 rfl rfl d_R_advancing_17 ?_
    refine cw_iconst 5 d_R_advancing_20 rfl ?_
    obtain ⟨b3, h⟩ := chk_some h
    refine cv_iald hG v_40 rfl rfl b3 rfl d_R_advancing_21 ?_
    refine ev_iload_n (k0 := 1) rfl d_R_advancing_22 ?_
    refine ev_iadd d_R_advancing_23 ?_
    refine cw_sipush 9999 d_R_advancing_24 rfl ?_
    obtain ⟨q4, hj, h⟩ := bind_some9 h
    have K_q4 : Ev g (d + 5) m_R_advancing 35 [some (.inr (0, off 13 0)), some (.inl (.int x1)), none, none] [.inl (.int q4), .inr (0, off 13 0)] (G, nx) 0 0 (pRW vr 535 547 (rI o.1) o.2 F nx) := by
      refine cw_iconst 2 d_R_advancing_35 rfl ?_
      obtain ⟨r5, hr5, h⟩ := bind_some9 h
      refine cv_V (d := d + 4) (mc1 := 0) (ms1 := 0) (mc := 0) (ms := 0) [.inl (.int q4), .inl (.int 2)] hG v_13 rfl lk_ProphecyShopModel_128 (w_R_right (d + 4) hG hr5) rfl rfl d_R_advancing_36 (aft_rw (fun G hG => ?_))
      refine Ev.at (pc' := 39) rfl (Ev.cong (st' := [.inl (.int r5.1)]) ?_ rfl rfl)
      refine ev_if_ne (tgt := 44) (by decide) d_R_advancing_39 (fun c => ?_) (fun c => ?_)
      · rw [if_neg c] at h
        refine ev_aload_n (k0 := 0) rfl d_R_advancing_44 ?_
        obtain ⟨r6, hr6, h⟩ := bind_some9 h
        refine cv_V (d := d + 4) (mc1 := 0) (ms1 := 0) (mc := 0) (ms := 0) [] hG v_13 rfl lk_ProphecyShopModel_382 (w_R_changes (d + 3) hG hr6) rfl rfl d_R_advancing_45 (aft_rw (fun G hG => ?_))
        refine Ev.at (pc' := 48) rfl (Ev.cong (st' := []) ?_ rfl rfl)
        refine ev_aload_n (k0 := 0) rfl d_R_advancing_48 ?_
        refine cv_get9 (.inr (0, off 40 0)) hG v_13 fg_ProphecyShopModel_7_13 rfl rfl d_R_advancing_49 ?_
        refine cw_bipush 13 d_R_advancing_52 rfl ?_
        obtain ⟨b7, h⟩ := chk_some h
        refine cv_iald hG v_40 rfl rfl b7 rfl d_R_advancing_54 ?_
        obtain ⟨v8, e_v8, h⟩ := nm_some h
        refine cw_istoreN_n 2 v8 e_v8 [some (.inr (0, off 13 0)), some (.inl (.int x1)), some (.inl (.int v8)), none] d_R_advancing_55 rfl rfl rfl ?_
        refine cw_iconst 0 d_R_advancing_56 rfl ?_
        refine cw_istoreN_n 3 0 rfl [some (.inr (0, off 13 0)), some (.inl (.int x1)), some (.inl (.int v8)), some (.inl (.int 0))] d_R_advancing_57 rfl rfl rfl ?_
        obtain ⟨q9, hl, h⟩ := bind_some9 h
        refine it_ev (W := fun (s : Int32 × Mem) => ∀ G, LM vr 535 547 s.2 F G → Ev g (d + 5) m_R_advancing 58 [some (.inr (0, off 13 0)), some (.inl (.int x1)), some (.inl (.int v8)), some (.inl (.int s.1))] [] (G, nx) 0 0 (pRW vr 535 547 (rI o.1) o.2 F nx)) (X := fun z => z = q9) rfl (fun s9 o9 hs kC9 kX9 => ?_) LIM _ hl G hG
        intro G hG
        refine ws_R_advancing_58 d  hG hs kC9 (fun r_ e G hG => ?_)
        · obtain rfl := (kX9 _ e).symm
          refine ev_aload_n (k0 := 0) rfl d_R_advancing_73 ?_
          refine cv_get9 (.inr (0, off 40 0)) hG v_13 fg_ProphecyShopModel_7_13 rfl rfl d_R_advancing_74 ?_
          refine cw_bipush 13 d_R_advancing_77 rfl ?_
          obtain ⟨b10, h⟩ := chk_some h
          refine cv_iald hG v_40 rfl rfl b10 rfl d_R_advancing_79 ?_
          refine ev_iload_n (k0 := 2) rfl d_R_advancing_80 ?_
          refine ev_isub d_R_advancing_81 ?_
          have hP := kE _ (Option.some.inj h).symm
          exact ev_ireturn (st := []) rfl rfl d_R_advancing_82 (by rw [hP]; exact ⟨rfl, hG, rfl⟩)
      · rw [if_pos c] at h
        refine cw_iconst 0 d_R_advancing_42 rfl ?_
        have hP := kE _ (Option.some.inj h).symm
        exact ev_ireturn (st := []) rfl rfl d_R_advancing_43 (by rw [hP]; exact ⟨rfl, hG, rfl⟩)
    clear h
    have h := hj
    refine ev_icmp_gt (tgt := 34) (by decide) d_R_advancing_27 (fun c => ?_) (fun c => ?_)
    · rw [if_pos c] at h
      refine cw_iconst 0 d_R_advancing_34 rfl ?_
      obtain rfl := Option.some.inj h
      exact K_q4
    · rw [if_neg c] at h
      refine cw_iconst 1 d_R_advancing_30 rfl ?_
      refine ev_goto (tgt := 35) (by decide) d_R_advancing_31 ?_
      obtain rfl := Option.some.inj h
      exact K_q4

/-- ProphecyShopModel.advance -/
def f_R_advance (x1 : Int32) (μ : Mem) : Option (Int32 × Mem) :=
  nm (st3 μ 13 0 7 0) (fun μ1 => ((f_R_advancing x1 μ1)).bind (fun r2 => some ((r2.1, r2.2))))
set_option maxRecDepth 100000 in
set_option maxHeartbeats 4000000 in
theorem w_R_advance {g : GL} {F G : RG} {nx : Nat} (d : Nat) {x1 : Int32} {μ : Mem}   {o : Int32 × Mem} (hG : LM vr 535 547 μ F G) (h : f_R_advance x1 μ = some o) : Mt g (d + 6) m_R_advance [.inr (0, off 13 0), .inl (.int x1)] (G, nx) 0 0 (pRW vr 535 547 (rI o.1) o.2 F nx) := by
  unfold f_R_advance at h
  have kE : ∀ v, o = v → pRW vr 535 547 (rI o.1) o.2 F nx = pRW vr 535 547 (rI v.1) v.2 F nx := fun v e => by rw [e]
  refine Mt.of9 [some (.inr (0, off 13 0)), some (.inl (.int x1))] (by decide +kernel) rfl rfl rfl rfl ?_
  refine ev_aload_n (k0 := 0) rfl d_R_advance_0 ?_
  refine cw_iconst 0 d_R_advance_1 rfl ?_
  obtain ⟨μ1, e_μ1, h⟩ := nm_some h
  refine cv_put (.inl (.int 0)) 0 hG okR v_13 fl_ProphecyShopModel_73_13 rfl rfl okv_int d_R_advance_2 ?_
  intro G hG; rw [← e_μ1] at hG
  refine ev_aload_n (k0 := 0) rfl d_R_advance_5 ?_
  refine ev_iload_n (k0 := 1) rfl d_R_advance_6 ?_
  obtain ⟨r2, hr2, h⟩ := bind_some9 h
  refine cv_V (d := d + 5) (mc1 := 0) (ms1 := 0) (mc := 0) (ms := 0) [.inl (.int x1)] hG v_13 rfl lk_ProphecyShopModel_304 (w_R_advancing (d + 0) hG hr2) rfl rfl d_R_advance_7 (aft_rw (fun G hG => ?_))
  refine Ev.at (pc' := 10) rfl (Ev.cong (st' := [.inl (.int r2.1)]) ?_ rfl rfl)
  have hP := kE _ (Option.some.inj h).symm
  exact ev_ireturn (st := []) rfl rfl d_R_advance_10 (by rw [hP]; exact ⟨rfl, hG, rfl⟩)

/-- ProphecyShopModel.ofNote -/
def f_R_ofNote (x1 : Int32) (x2 : Int32) (μ : Mem) : Option (Int32) :=
  chk (inb ((320 + (3 * x1)) + x2) 524) (some (μ 40 0 ((320 + (3 * x1)) + x2).toNatClampNeg))
set_option maxRecDepth 100000 in
set_option maxHeartbeats 4000000 in
theorem w_R_ofNote {g : GL} {F G : RG} {nx : Nat} (d : Nat) {x1 : Int32} {x2 : Int32} {μ : Mem}   {o : Int32} (hG : LM vr 535 547 μ F G) (h : f_R_ofNote x1 x2 μ = some o) : Mt g (d + 0) m_R_ofNote [.inr (0, off 13 0), .inl (.int x1), .inl (.int x2)] (G, nx) 0 0 (pRO (rI o) (G, nx)) := by
  unfold f_R_ofNote at h
  have kE : ∀ v, o = v → pRO (rI o) (G, nx) = pRO (rI v) (G, nx) := fun v e => by rw [e]
  refine Mt.of9 [some (.inr (0, off 13 0)), some (.inl (.int x1)), some (.inl (.int x2))] (by decide +kernel) rfl rfl rfl rfl ?_
  refine ev_aload_n (k0 := 0) rfl d_R_ofNote_0 ?_
  refine cv_get9 (.inr (0, off 40 0)) hG v_13 fg_ProphecyShopModel_7_13 rfl rfl d_R_ofNote_1 ?_
  refine cw_sipush 320 d_R_ofNote_4 rfl ?_
  refine cw_iconst 3 d_R_ofNote_7 rfl ?_
  refine ev_iload_n (k0 := 1) rfl d_R_ofNote_8 ?_
  refine ev_imul d_R_ofNote_9 ?_
  refine ev_iadd d_R_ofNote_10 ?_
  refine ev_iload_n (k0 := 2) rfl d_R_ofNote_11 ?_
  refine ev_iadd d_R_ofNote_12 ?_
  obtain ⟨b1, h⟩ := chk_some h
  refine cv_iald hG v_40 rfl rfl b1 rfl d_R_ofNote_13 ?_
  have hP := kE _ (Option.some.inj h).symm
  exact ev_ireturn (st := []) rfl rfl d_R_ofNote_14 (by rw [hP]; exact ⟨rfl, rfl⟩)

/-- ProphecyShopModel.noted -/
def s_R_noted_6 (x1 : Int32) (x2 : Int32) (x3 : Int32) (x4 : Int32) (x5 : Int32) (μ : Mem) : Option ((Int32 × Int32) ⊕ (Int32)) :=
  chk (inb 11 524) (if (μ 40 0 (11 : Int32).toNatClampNeg) ≤ x5 then (some (.inr x4)) else (((f_R_ofNote x5 0 μ)).bind (fun r2 => if r2 = x1 then (((f_R_ofNote x5 1 μ)).bind (fun r3 => if r3 = x2 then (if x3 = ((-1)) then (some (.inl ((x4 + 1, x5 + 1)))) else (((f_R_ofNote x5 2 μ)).bind (fun r4 => if r4 = x3 then (some (.inl ((x4 + 1, x5 + 1)))) else (some (.inl ((x4, x5 + 1))))))) else (some (.inl ((x4, x5 + 1)))))) else (some (.inl ((x4, x5 + 1)))))))
def f_R_noted (x1 : Int32) (x2 : Int32) (x3 : Int32) (μ : Mem) : Option (Int32) :=
  (it (fun (s : Int32 × Int32) => s_R_noted_6 x1 x2 x3 s.1 s.2 μ) LIM ((0, 0))).bind (fun q1 => some q1)
set_option maxRecDepth 100000 in
set_option maxHeartbeats 4000000 in
theorem ws_R_noted_6 {g : GL} {F G : RG} {nx mc ms : Nat} {Post : RO → RM → Prop} (d : Nat) {x1 : Int32} {x2 : Int32} {x3 : Int32} {x4 : Int32} {x5 : Int32} {μ : Mem}   {o : (Int32 × Int32) ⊕ (Int32)} (hG : LM vr 535 547 μ F G) (h : s_R_noted_6 x1 x2 x3 x4 x5 μ = some o)
    (kC : ∀ s', o = .inl s' → Ev g (d + 1) m_R_noted 6 [some (.inr (0, off 13 0)), some (.inl (.int x1)), some (.inl (.int x2)), some (.inl (.int x3)), some (.inl (.int s'.1)), some (.inl (.int s'.2))] [] (G, nx) mc ms Post)
    (kX : ∀ r, o = .inr r → Ev g (d + 1) m_R_noted 65 [none, none, none, none, some (.inl (.int r)), none] [] (G, nx) mc ms Post)
    : Ev g (d + 1) m_R_noted 6 [some (.inr (0, off 13 0)), some (.inl (.int x1)), some (.inl (.int x2)), some (.inl (.int x3)), some (.inl (.int x4)), some (.inl (.int x5))] [] (G, nx) mc ms Post := by
  unfold s_R_noted_6 at h
  refine ev_iload (i := 5) rfl d_R_noted_6 ?_
  refine ev_aload_n (k0 := 0) rfl d_R_noted_8 ?_
  refine cv_get9 (.inr (0, off 40 0)) hG v_13 fg_ProphecyShopModel_7_13 rfl rfl d_R_noted_9 ?_
  refine cw_bipush 11 d_R_noted_12 rfl ?_
  obtain ⟨b1, h⟩ := chk_some h
  refine cv_iald hG v_40 rfl rfl b1 rfl d_R_noted_14 ?_
  refine ev_icmp_ge (tgt := 65) (by decide) d_R_noted_15 (fun c => ?_) (fun c => ?_)
  · rw [if_pos c] at h
    exact Ev.sub (.n (.n (.n (.n (.s (.n LSb.z)))))) (kX _ (Option.some.inj h).symm)
  · rw [if_neg c] at h
    refine ev_aload_n (k0 := 0) rfl d_R_noted_18 ?_
    refine ev_iload (i := 5) rfl d_R_noted_19 ?_
    refine cw_iconst 0 d_R_noted_21 rfl ?_
    obtain ⟨r2, hr2, h⟩ := bind_some9 h
    refine Ev.z9 ?_
    refine cv_V (d := d + 0) (mc1 := 0) (ms1 := 0) (mc := mc) (ms := ms) [.inl (.int x5), .inl (.int 0)] hG v_13 rfl lk_ProphecyShopModel_88 (w_R_ofNote (d + 0) hG hr2) rfl rfl d_R_noted_22 (aft_ro ?_)
    refine Ev.at (pc' := 25) rfl (Ev.cong (st' := [.inl (.int r2)]) ?_ rfl rfl)
    refine ev_iload_n (k0 := 1) rfl d_R_noted_25 ?_
    refine ev_icmp_ne (tgt := 59) (by decide) d_R_noted_26 (fun c => ?_) (fun c => ?_)
    · rw [if_neg c] at h
      refine cw_iincN 5 1 [some (.inr (0, off 13 0)), some (.inl (.int x1)), some (.inl (.int x2)), some (.inl (.int x3)), some (.inl (.int x4)), some (.inl (.int (x5 + 1)))] d_R_noted_59 rfl rfl rfl rfl rfl ?_
      refine ev_goto (tgt := 6) (by decide) d_R_noted_62 ?_
      exact kC _ (Option.some.inj h).symm
    · rw [if_pos c] at h
      refine ev_aload_n (k0 := 0) rfl d_R_noted_29 ?_
      refine ev_iload (i := 5) rfl d_R_noted_30 ?_
      refine cw_iconst 1 d_R_noted_32 rfl ?_
      obtain ⟨r3, hr3, h⟩ := bind_some9 h
      refine Ev.z9 ?_
      refine cv_V (d := d + 0) (mc1 := 0) (ms1 := 0) (mc := mc) (ms := ms) [.inl (.int x5), .inl (.int 1)] hG v_13 rfl lk_ProphecyShopModel_88 (w_R_ofNote (d + 0) hG hr3) rfl rfl d_R_noted_33 (aft_ro ?_)
      refine Ev.at (pc' := 36) rfl (Ev.cong (st' := [.inl (.int r3)]) ?_ rfl rfl)
      refine ev_iload_n (k0 := 2) rfl d_R_noted_36 ?_
      refine ev_icmp_ne (tgt := 59) (by decide) d_R_noted_37 (fun c => ?_) (fun c => ?_)
      · rw [if_neg c] at h
        refine cw_iincN 5 1 [some (.inr (0, off 13 0)), some (.inl (.int x1)), some (.inl (.int x2)), some (.inl (.int x3)), some (.inl (.int x4)), some (.inl (.int (x5 + 1)))] d_R_noted_59 rfl rfl rfl rfl rfl ?_
        refine ev_goto (tgt := 6) (by decide) d_R_noted_62 ?_
        exact kC _ (Option.some.inj h).symm
      · rw [if_pos c] at h
        refine ev_iload_n (k0 := 3) rfl d_R_noted_40 ?_
        refine cw_iconst (-1) d_R_noted_41 rfl ?_
        refine ev_icmp_eq (tgt := 56) (by decide) d_R_noted_42 (fun c => ?_) (fun c => ?_)
        · rw [if_pos c] at h
          refine cw_iincN 4 1 [some (.inr (0, off 13 0)), some (.inl (.int x1)), some (.inl (.int x2)), some (.inl (.int x3)), some (.inl (.int (x4 + 1))), some (.inl (.int x5))] d_R_noted_56 rfl rfl rfl rfl rfl ?_
          refine cw_iincN 5 1 [some (.inr (0, off 13 0)), some (.inl (.int x1)), some (.inl (.int x2)), some (.inl (.int x3)), some (.inl (.int (x4 + 1))), some (.inl (.int (x5 + 1)))] d_R_noted_59 rfl rfl rfl rfl rfl ?_
          refine ev_goto (tgt := 6) (by decide) d_R_noted_62 ?_
          exact kC _ (Option.some.inj h).symm
        · rw [if_neg c] at h
          refine ev_aload_n (k0 := 0) rfl d_R_noted_45 ?_
          refine ev_iload (i := 5) rfl d_R_noted_46 ?_
          refine cw_iconst 2 d_R_noted_48 rfl ?_
          obtain ⟨r4, hr4, h⟩ := bind_some9 h
          refine Ev.z9 ?_
          refine cv_V (d := d + 0) (mc1 := 0) (ms1 := 0) (mc := mc) (ms := ms) [.inl (.int x5), .inl (.int 2)] hG v_13 rfl lk_ProphecyShopModel_88 (w_R_ofNote (d + 0) hG hr4) rfl rfl d_R_noted_49 (aft_ro ?_)
          refine Ev.at (pc' := 52) rfl (Ev.cong (st' := [.inl (.int r4)]) ?_ rfl rfl)
          refine ev_iload_n (k0 := 3) rfl d_R_noted_52 ?_
          refine ev_icmp_ne (tgt := 59) (by decide) d_R_noted_53 (fun c => ?_) (fun c => ?_)
          · rw [if_neg c] at h
            refine cw_iincN 5 1 [some (.inr (0, off 13 0)), some (.inl (.int x1)), some (.inl (.int x2)), some (.inl (.int x3)), some (.inl (.int x4)), some (.inl (.int (x5 + 1)))] d_R_noted_59 rfl rfl rfl rfl rfl ?_
            refine ev_goto (tgt := 6) (by decide) d_R_noted_62 ?_
            exact kC _ (Option.some.inj h).symm
          · rw [if_pos c] at h
            refine cw_iincN 4 1 [some (.inr (0, off 13 0)), some (.inl (.int x1)), some (.inl (.int x2)), some (.inl (.int x3)), some (.inl (.int (x4 + 1))), some (.inl (.int x5))] d_R_noted_56 rfl rfl rfl rfl rfl ?_
            refine cw_iincN 5 1 [some (.inr (0, off 13 0)), some (.inl (.int x1)), some (.inl (.int x2)), some (.inl (.int x3)), some (.inl (.int (x4 + 1))), some (.inl (.int (x5 + 1)))] d_R_noted_59 rfl rfl rfl rfl rfl ?_
            refine ev_goto (tgt := 6) (by decide) d_R_noted_62 ?_
            exact kC _ (Option.some.inj h).symm
set_option maxRecDepth 100000 in
set_option maxHeartbeats 4000000 in
theorem w_R_noted {g : GL} {F G : RG} {nx : Nat} (d : Nat) {x1 : Int32} {x2 : Int32} {x3 : Int32} {μ : Mem}   {o : Int32} (hG : LM vr 535 547 μ F G) (h : f_R_noted x1 x2 x3 μ = some o) : Mt g (d + 1) m_R_noted [.inr (0, off 13 0), .inl (.int x1), .inl (.int x2), .inl (.int x3)] (G, nx) 0 0 (pRO (rI o) (G, nx)) := by
  unfold f_R_noted at h
  have kE : ∀ v, o = v → pRO (rI o) (G, nx) = pRO (rI v) (G, nx) := fun v e => by rw [e]
  refine Mt.of9 [some (.inr (0, off 13 0)), some (.inl (.int x1)), some (.inl (.int x2)), some (.inl (.int x3)), none, none] (by decide +kernel) rfl rfl rfl rfl ?_
  refine cw_iconst 0 d_R_noted_0 rfl ?_
  refine cw_istoreN 4 0 rfl [some (.inr (0, off 13 0)), some (.inl (.int x1)), some (.inl (.int x2)), some (.inl (.int x3)), some (.inl (.int 0)), none] d_R_noted_1 rfl rfl rfl ?_
  refine cw_iconst 0 d_R_noted_3 rfl ?_
  refine cw_istoreN 5 0 rfl [some (.inr (0, off 13 0)), some (.inl (.int x1)), some (.inl (.int x2)), some (.inl (.int x3)), some (.inl (.int 0)), some (.inl (.int 0))] d_R_noted_4 rfl rfl rfl ?_
  obtain ⟨q1, hl, h⟩ := bind_some9 h
  refine it_ev (W := fun (s : Int32 × Int32) => Ev g (d + 1) m_R_noted 6 [some (.inr (0, off 13 0)), some (.inl (.int x1)), some (.inl (.int x2)), some (.inl (.int x3)), some (.inl (.int s.1)), some (.inl (.int s.2))] [] (G, nx) 0 0 (pRO (rI o) (G, nx))) (X := fun z => z = q1) rfl (fun s9 o9 hs kC9 kX9 => ?_) LIM _ hl
  refine ws_R_noted_6 d  hG hs kC9 (fun r_ e => ?_)
  · obtain rfl := (kX9 _ e).symm
    refine ev_iload (i := 4) rfl d_R_noted_65 ?_
    have hP := kE _ (Option.some.inj h).symm
    exact ev_ireturn (st := []) rfl rfl d_R_noted_67 (by rw [hP]; exact ⟨rfl, rfl⟩)

/-- ProphecyShopModel.allAt -/
def s_R_allAt_4 (x1 : Int32) (x2 : Int32) (x3 : Int32) (μ : Mem) : Option ((Int32 × Int32) ⊕ (Int32)) :=
  chk (inb 6 524) (if (μ 40 0 (6 : Int32).toNatClampNeg) ≤ x3 then (some (.inr x2)) else (((f_R_noted x3 x1 (-1) μ)).bind (fun r2 => nm (x2 + r2 : Int32) (fun v3 => some (.inl ((v3, x3 + 1)))))))
def f_R_allAt (x1 : Int32) (μ : Mem) : Option (Int32) :=
  (it (fun (s : Int32 × Int32) => s_R_allAt_4 x1 s.1 s.2 μ) LIM ((0, 0))).bind (fun q1 => some q1)
set_option maxRecDepth 100000 in
set_option maxHeartbeats 4000000 in
theorem ws_R_allAt_4 {g : GL} {F G : RG} {nx mc ms : Nat} {Post : RO → RM → Prop} (d : Nat) {x1 : Int32} {x2 : Int32} {x3 : Int32} {μ : Mem}   {o : (Int32 × Int32) ⊕ (Int32)} (hG : LM vr 535 547 μ F G) (h : s_R_allAt_4 x1 x2 x3 μ = some o)
    (kC : ∀ s', o = .inl s' → Ev g (d + 2) m_R_allAt 4 [some (.inr (0, off 13 0)), some (.inl (.int x1)), some (.inl (.int s'.1)), some (.inl (.int s'.2))] [] (G, nx) mc ms Post)
    (kX : ∀ r, o = .inr r → Ev g (d + 2) m_R_allAt 31 [none, none, some (.inl (.int r)), none] [] (G, nx) mc ms Post)
    : Ev g (d + 2) m_R_allAt 4 [some (.inr (0, off 13 0)), some (.inl (.int x1)), some (.inl (.int x2)), some (.inl (.int x3))] [] (G, nx) mc ms Post := by
  unfold s_R_allAt_4 at h
  refine ev_iload_n (k0 := 3) rfl d_R_allAt_4 ?_
  refine ev_aload_n (k0 := 0) rfl d_R_allAt_5 ?_
  refine cv_get9 (.inr (0, off 40 0)) hG v_13 fg_ProphecyShopModel_7_13 rfl rfl d_R_allAt_6 ?_
  refine cw_bipush 6 d_R_allAt_9 rfl ?_
  obtain ⟨b1, h⟩ := chk_some h
  refine cv_iald hG v_40 rfl rfl b1 rfl d_R_allAt_11 ?_
  refine ev_icmp_ge (tgt := 31) (by decide) d_R_allAt_12 (fun c => ?_) (fun c => ?_)
  · rw [if_pos c] at h
    exact Ev.sub (.n (.n (.s (.n LSb.z)))) (kX _ (Option.some.inj h).symm)
  · rw [if_neg c] at h
    refine ev_iload_n (k0 := 2) rfl d_R_allAt_15 ?_
    refine ev_aload_n (k0 := 0) rfl d_R_allAt_16 ?_
    refine ev_iload_n (k0 := 3) rfl d_R_allAt_17 ?_
    refine ev_iload_n (k0 := 1) rfl d_R_allAt_18 ?_
    refine cw_iconst (-1) d_R_allAt_19 rfl ?_
    obtain ⟨r2, hr2, h⟩ := bind_some9 h
    refine Ev.z9 ?_
    refine cv_V (d := d + 1) (mc1 := 0) (ms1 := 0) (mc := mc) (ms := ms) [.inl (.int x3), .inl (.int x1), .inl (.int ((-1)))] hG v_13 rfl lk_ProphecyShopModel_339 (w_R_noted (d + 0) hG hr2) rfl rfl d_R_allAt_20 (aft_ro ?_)
    refine Ev.at (pc' := 23) rfl (Ev.cong (st' := [.inl (.int r2), .inl (.int x2)]) ?_ rfl rfl)
    refine ev_iadd d_R_allAt_23 ?_
    obtain ⟨v3, e_v3, h⟩ := nm_some h
    refine cw_istoreN_n 2 v3 e_v3 [some (.inr (0, off 13 0)), some (.inl (.int x1)), some (.inl (.int v3)), some (.inl (.int x3))] d_R_allAt_24 rfl rfl rfl ?_
    refine cw_iincN 3 1 [some (.inr (0, off 13 0)), some (.inl (.int x1)), some (.inl (.int v3)), some (.inl (.int (x3 + 1)))] d_R_allAt_25 rfl rfl rfl rfl rfl ?_
    refine ev_goto (tgt := 4) (by decide) d_R_allAt_28 ?_
    exact kC _ (Option.some.inj h).symm
set_option maxRecDepth 100000 in
set_option maxHeartbeats 4000000 in
theorem w_R_allAt {g : GL} {F G : RG} {nx : Nat} (d : Nat) {x1 : Int32} {μ : Mem}   {o : Int32} (hG : LM vr 535 547 μ F G) (h : f_R_allAt x1 μ = some o) : Mt g (d + 2) m_R_allAt [.inr (0, off 13 0), .inl (.int x1)] (G, nx) 0 0 (pRO (rI o) (G, nx)) := by
  unfold f_R_allAt at h
  have kE : ∀ v, o = v → pRO (rI o) (G, nx) = pRO (rI v) (G, nx) := fun v e => by rw [e]
  refine Mt.of9 [some (.inr (0, off 13 0)), some (.inl (.int x1)), none, none] (by decide +kernel) rfl rfl rfl rfl ?_
  refine cw_iconst 0 d_R_allAt_0 rfl ?_
  refine cw_istoreN_n 2 0 rfl [some (.inr (0, off 13 0)), some (.inl (.int x1)), some (.inl (.int 0)), none] d_R_allAt_1 rfl rfl rfl ?_
  refine cw_iconst 0 d_R_allAt_2 rfl ?_
  refine cw_istoreN_n 3 0 rfl [some (.inr (0, off 13 0)), some (.inl (.int x1)), some (.inl (.int 0)), some (.inl (.int 0))] d_R_allAt_3 rfl rfl rfl ?_
  obtain ⟨q1, hl, h⟩ := bind_some9 h
  refine it_ev (W := fun (s : Int32 × Int32) => Ev g (d + 2) m_R_allAt 4 [some (.inr (0, off 13 0)), some (.inl (.int x1)), some (.inl (.int s.1)), some (.inl (.int s.2))] [] (G, nx) 0 0 (pRO (rI o) (G, nx))) (X := fun z => z = q1) rfl (fun s9 o9 hs kC9 kX9 => ?_) LIM _ hl
  refine ws_R_allAt_4 d  hG hs kC9 (fun r_ e => ?_)
  · obtain rfl := (kX9 _ e).symm
    refine ev_iload_n (k0 := 2) rfl d_R_allAt_31 ?_
    have hP := kE _ (Option.some.inj h).symm
    exact ev_ireturn (st := []) rfl rfl d_R_allAt_32 (by rw [hP]; exact ⟨rfl, rfl⟩)

/-- ProphecyShopModel.isProphecy -/
def f_R_isProphecy (x1 : Int32) (μ : Mem) : Option (Int32) :=
  chk (inb 10 524) (((f_R_in x1 0 ((μ 40 0 (10 : Int32).toNatClampNeg) - 1) μ)).bind (fun r2 => chk (nb .boolean r2) (some r2)))
set_option maxRecDepth 100000 in
set_option maxHeartbeats 4000000 in
theorem w_R_isProphecy {g : GL} {F G : RG} {nx : Nat} (d : Nat) {x1 : Int32} {μ : Mem}   {o : Int32} (hG : LM vr 535 547 μ F G) (h : f_R_isProphecy x1 μ = some o) : Mt g (d + 1) m_R_isProphecy [.inr (0, off 13 0), .inl (.int x1)] (G, nx) 0 0 (pRO (rI o) (G, nx)) := by
  unfold f_R_isProphecy at h
  have kE : ∀ v, o = v → pRO (rI o) (G, nx) = pRO (rI v) (G, nx) := fun v e => by rw [e]
  refine Mt.of9 [some (.inr (0, off 13 0)), some (.inl (.int x1))] (by decide +kernel) rfl rfl rfl rfl ?_
  refine ev_iload_n (k0 := 1) rfl d_R_isProphecy_0 ?_
  refine cw_iconst 0 d_R_isProphecy_1 rfl ?_
  refine ev_aload_n (k0 := 0) rfl d_R_isProphecy_2 ?_
  refine cv_get9 (.inr (0, off 40 0)) hG v_13 fg_ProphecyShopModel_7_13 rfl rfl d_R_isProphecy_3 ?_
  refine cw_bipush 10 d_R_isProphecy_6 rfl ?_
  obtain ⟨b1, h⟩ := chk_some h
  refine cv_iald hG v_40 rfl rfl b1 rfl d_R_isProphecy_8 ?_
  refine cw_iconst 1 d_R_isProphecy_9 rfl ?_
  refine ev_isub d_R_isProphecy_10 ?_
  obtain ⟨r2, hr2, h⟩ := bind_some9 h
  refine cw_S (d := d + 0) (mc1 := 0) (ms1 := 0) (mc := 0) (ms := 0) [.inl (.int x1), .inl (.int 0), .inl (.int ((μ 40 0 (10 : Int32).toNatClampNeg) - 1))] lk_ProphecyShopModel_76 (w_R_in (d + 0) hG hr2) rfl rfl d_R_isProphecy_11 (aft_ro ?_)
  refine Ev.at (pc' := 14) rfl (Ev.cong (st' := [.inl (.int r2)]) ?_ rfl rfl)
  obtain ⟨b3, h⟩ := chk_some h
  have hP := kE _ (Option.some.inj h).symm
  exact ev_ireturn (st := []) rfl (nb_eq b3) d_R_isProphecy_14 (by rw [hP]; exact ⟨rfl, rfl⟩)

/-- ProphecyShopModel.asked -/
def f_R_asked (x1 : Int32) (x2 : Int32) (μ : Mem) : Option (Int32 × Mem) :=
  nm (st3 μ 13 0 7 0) (fun μ1 => ((f_R_isProphecy x1 μ1)).bind (fun r2 => ((f_R_right r2 1 μ1)).bind (fun r3 => if r3.1 = 0 then (some ((0, r3.2))) else (((f_R_of x1 x2 r3.2)).bind (fun r4 => some ((r4, r3.2)))))))
set_option maxRecDepth 100000 in
set_option maxHeartbeats 4000000 in
theorem w_R_asked {g : GL} {F G : RG} {nx : Nat} (d : Nat) {x1 : Int32} {x2 : Int32} {μ : Mem}   {o : Int32 × Mem} (hG : LM vr 535 547 μ F G) (h : f_R_asked x1 x2 μ = some o) : Mt g (d + 2) m_R_asked [.inr (0, off 13 0), .inl (.int x1), .inl (.int x2)] (G, nx) 0 0 (pRW vr 535 547 (rI o.1) o.2 F nx) := by
  unfold f_R_asked at h
  have kE : ∀ v, o = v → pRW vr 535 547 (rI o.1) o.2 F nx = pRW vr 535 547 (rI v.1) v.2 F nx := fun v e => by rw [e]
  refine Mt.of9 [some (.inr (0, off 13 0)), some (.inl (.int x1)), some (.inl (.int x2))] (by decide +kernel) rfl rfl rfl rfl ?_
  refine ev_aload_n (k0 := 0) rfl d_R_asked_0 ?_
  refine cw_iconst 0 d_R_asked_1 rfl ?_
  obtain ⟨μ1, e_μ1, h⟩ := nm_some h
  refine cv_put (.inl (.int 0)) 0 hG okR v_13 fl_ProphecyShopModel_73_13 rfl rfl okv_int d_R_asked_2 ?_
  intro G hG; rw [← e_μ1] at hG
  refine ev_aload_n (k0 := 0) rfl d_R_asked_5 ?_
  refine ev_aload_n (k0 := 0) rfl d_R_asked_6 ?_
  refine ev_iload_n (k0 := 1) rfl d_R_asked_7 ?_
  obtain ⟨r2, hr2, h⟩ := bind_some9 h
  refine cv_V (d := d + 1) (mc1 := 0) (ms1 := 0) (mc := 0) (ms := 0) [.inl (.int x1)] hG v_13 rfl lk_ProphecyShopModel_346 (w_R_isProphecy (d + 0) hG hr2) rfl rfl d_R_asked_8 (aft_ro ?_)
  refine Ev.at (pc' := 11) rfl (Ev.cong (st' := [.inl (.int r2), .inr (0, off 13 0)]) ?_ rfl rfl)
  refine cw_iconst 1 d_R_asked_11 rfl ?_
  obtain ⟨r3, hr3, h⟩ := bind_some9 h
  refine cv_V (d := d + 1) (mc1 := 0) (ms1 := 0) (mc := 0) (ms := 0) [.inl (.int r2), .inl (.int 1)] hG v_13 rfl lk_ProphecyShopModel_128 (w_R_right (d + 1) hG hr3) rfl rfl d_R_asked_12 (aft_rw (fun G hG => ?_))
  refine Ev.at (pc' := 15) rfl (Ev.cong (st' := [.inl (.int r3.1)]) ?_ rfl rfl)
  refine ev_if_eq (tgt := 27) (by decide) d_R_asked_15 (fun c => ?_) (fun c => ?_)
  · rw [if_pos c] at h
    refine cw_iconst 0 d_R_asked_27 rfl ?_
    have hP := kE _ (Option.some.inj h).symm
    exact ev_ireturn (st := []) rfl rfl d_R_asked_28 (by rw [hP]; exact ⟨rfl, hG, rfl⟩)
  · rw [if_neg c] at h
    refine ev_aload_n (k0 := 0) rfl d_R_asked_18 ?_
    refine ev_iload_n (k0 := 1) rfl d_R_asked_19 ?_
    refine ev_iload_n (k0 := 2) rfl d_R_asked_20 ?_
    obtain ⟨r4, hr4, h⟩ := bind_some9 h
    refine cv_V (d := d + 1) (mc1 := 0) (ms1 := 0) (mc := 0) (ms := 0) [.inl (.int x1), .inl (.int x2)] hG v_13 rfl lk_ProphecyShopModel_84 (w_R_of (d + 1) hG hr4) rfl rfl d_R_asked_21 (aft_ro ?_)
    refine Ev.at (pc' := 24) rfl (Ev.cong (st' := [.inl (.int r4)]) ?_ rfl rfl)
    refine ev_goto (tgt := 28) (by decide) d_R_asked_24 ?_
    have hP := kE _ (Option.some.inj h).symm
    exact ev_ireturn (st := []) rfl rfl d_R_asked_28 (by rw [hP]; exact ⟨rfl, hG, rfl⟩)

/-- ProphecyShopModel.answerFor -/
def f_R_answerFor (x1 : Int32) (μ : Mem) : Option (Int32 × Mem) :=
  ((f_R_asked x1 9 μ)).bind (fun r1 => some ((r1.1, r1.2)))
set_option maxRecDepth 100000 in
set_option maxHeartbeats 4000000 in
theorem w_R_answerFor {g : GL} {F G : RG} {nx : Nat} (d : Nat) {x1 : Int32} {μ : Mem}   {o : Int32 × Mem} (hG : LM vr 535 547 μ F G) (h : f_R_answerFor x1 μ = some o) : Mt g (d + 3) m_R_answerFor [.inr (0, off 13 0), .inl (.int x1)] (G, nx) 0 0 (pRW vr 535 547 (rI o.1) o.2 F nx) := by
  unfold f_R_answerFor at h
  have kE : ∀ v, o = v → pRW vr 535 547 (rI o.1) o.2 F nx = pRW vr 535 547 (rI v.1) v.2 F nx := fun v e => by rw [e]
  refine Mt.of9 [some (.inr (0, off 13 0)), some (.inl (.int x1))] (by decide +kernel) rfl rfl rfl rfl ?_
  refine ev_aload_n (k0 := 0) rfl d_R_answerFor_0 ?_
  refine ev_iload_n (k0 := 1) rfl d_R_answerFor_1 ?_
  refine cw_bipush 9 d_R_answerFor_2 rfl ?_
  obtain ⟨r1, hr1, h⟩ := bind_some9 h
  refine cv_V (d := d + 2) (mc1 := 0) (ms1 := 0) (mc := 0) (ms := 0) [.inl (.int x1), .inl (.int 9)] hG v_13 rfl lk_ProphecyShopModel_349 (w_R_asked (d + 0) hG hr1) rfl rfl d_R_answerFor_4 (aft_rw (fun G hG => ?_))
  refine Ev.at (pc' := 7) rfl (Ev.cong (st' := [.inl (.int r1.1)]) ?_ rfl rfl)
  have hP := kE _ (Option.some.inj h).symm
  exact ev_ireturn (st := []) rfl rfl d_R_answerFor_7 (by rw [hP]; exact ⟨rfl, hG, rfl⟩)

/-- ProphecyShopModel.feeds -/
def s_R_feeds_3 (x1 : Int32) (x2 : Int32) (μ : Mem) : Option ((Int32 × Mem) ⊕ (Mem)) :=
  if x2 < 0 then (some (.inr μ)) else (nm ((x1 >>> (x2 &&& 31)) &&& 255 : Int32) (fun v1 => if v1 = 0 then (some (.inl ((x2 + (-8), μ)))) else (((if (800 : Int32) ≤ (μ 13 0 9) then (some (μ)) else (chk (inb (μ 13 0 9) 800) (nm (st3 μ 46 0 (μ 13 0 9).toNatClampNeg v1) (fun μ5 => some (μ5)))) : Option (Mem))).bind (fun q2 => nm (st3 q2 13 0 9 ((q2 13 0 9) + 1)) (fun μ3 => some (.inl ((x2 + (-8), μ3))))))))
def f_R_feeds (x1 : Int32) (μ : Mem) : Option (Mem) :=
  (it (fun (s : Int32 × Mem) => s_R_feeds_3 x1 s.1 s.2) LIM ((24, μ))).bind (fun q1 => some q1)
set_option maxRecDepth 100000 in
set_option maxHeartbeats 4000000 in
theorem ws_R_feeds_3 {g : GL} {F G : RG} {nx mc ms : Nat} {Post : RO → RM → Prop} (d : Nat) {x1 : Int32} {x2 : Int32} {μ : Mem}   {o : (Int32 × Mem) ⊕ (Mem)} (hG : LM vr 535 547 μ F G) (h : s_R_feeds_3 x1 x2 μ = some o)
    (kC : ∀ s', o = .inl s' → ∀ G, LM vr 535 547 s'.2 F G → Ev g (d + 0) m_R_feeds 3 [some (.inr (0, off 13 0)), some (.inl (.int x1)), some (.inl (.int s'.1)), none] [] (G, nx) mc ms Post)
    (kX : ∀ r, o = .inr r → ∀ G, LM vr 535 547 r F G → Ev g (d + 0) m_R_feeds 58 [none, none, none, none] [] (G, nx) mc ms Post)
    : Ev g (d + 0) m_R_feeds 3 [some (.inr (0, off 13 0)), some (.inl (.int x1)), some (.inl (.int x2)), none] [] (G, nx) mc ms Post := by
  unfold s_R_feeds_3 at h
  refine ev_iload_n (k0 := 2) rfl d_R_feeds_3 ?_
  refine ev_if_lt (tgt := 58) (by decide) d_R_feeds_4 (fun c => ?_) (fun c => ?_)
  · rw [if_pos c] at h
    exact Ev.sub (.n (.n (.n (.n LSb.z)))) (kX _ (Option.some.inj h).symm G hG)
  · rw [if_neg c] at h
    refine ev_iload_n (k0 := 1) rfl d_R_feeds_7 ?_
    refine ev_iload_n (k0 := 2) rfl d_R_feeds_8 ?_
    refine ev_ishr d_R_feeds_9 ?_
    refine cw_sipush 255 d_R_feeds_10 rfl ?_
    refine ev_iand d_R_feeds_13 ?_
    obtain ⟨v1, e_v1, h⟩ := nm_some h
    refine cw_istoreN_n 3 v1 e_v1 [some (.inr (0, off 13 0)), some (.inl (.int x1)), some (.inl (.int x2)), some (.inl (.int v1))] d_R_feeds_14 rfl rfl rfl ?_
    refine ev_iload_n (k0 := 3) rfl d_R_feeds_15 ?_
    refine ev_if_ne (tgt := 22) (by decide) d_R_feeds_16 (fun c => ?_) (fun c => ?_)
    · rw [if_neg c] at h
      refine ev_aload_n (k0 := 0) rfl d_R_feeds_22 ?_
      refine cv_get9 (.inl (.int (μ 13 0 9))) hG v_13 fg_ProphecyShopModel_64_13 rfl rfl d_R_feeds_23 ?_
      refine cw_sipush 800 d_R_feeds_26 rfl ?_
      obtain ⟨q2, hj, h⟩ := bind_some9 h
      have K_q2 : ∀ G, LM vr 535 547 q2 F G → Ev g (d + 0) m_R_feeds 42 [some (.inr (0, off 13 0)), some (.inl (.int x1)), some (.inl (.int x2)), none] [] (G, nx) mc ms Post := by
        intro G hG
        refine ev_aload_n (k0 := 0) rfl d_R_feeds_42 ?_
        refine ev_dup rfl d_R_feeds_43 ?_
        refine cv_get9 (.inl (.int (q2 13 0 9))) hG v_13 fg_ProphecyShopModel_64_13 rfl rfl d_R_feeds_44 ?_
        refine cw_iconst 1 d_R_feeds_47 rfl ?_
        refine ev_iadd d_R_feeds_48 ?_
        obtain ⟨μ3, e_μ3, h⟩ := nm_some h
        refine cv_put (.inl (.int ((q2 13 0 9) + 1))) ((q2 13 0 9) + 1) hG okR v_13 fl_ProphecyShopModel_64_13 rfl rfl okv_int d_R_feeds_49 ?_
        intro G hG; rw [← e_μ3] at hG
        refine cw_iincN 2 (-8) [some (.inr (0, off 13 0)), some (.inl (.int x1)), some (.inl (.int (x2 + (-8)))), none] d_R_feeds_52 rfl rfl rfl rfl rfl ?_
        refine ev_goto (tgt := 3) (by decide) d_R_feeds_55 ?_
        exact kC _ (Option.some.inj h).symm G hG
      clear h
      have h := hj
      refine ev_icmp_ge (tgt := 42) (by decide) d_R_feeds_29 (fun c => ?_) (fun c => ?_)
      · rw [if_pos c] at h
        obtain rfl := Option.some.inj h
        exact Ev.sub (.s (.s (.s (.n LSb.z)))) (K_q2 G hG)
      · rw [if_neg c] at h
        refine ev_aload_n (k0 := 0) rfl d_R_feeds_32 ?_
        refine cv_get9 (.inr (0, off 46 0)) hG v_13 fg_ProphecyShopModel_29_13 rfl rfl d_R_feeds_33 ?_
        refine ev_aload_n (k0 := 0) rfl d_R_feeds_36 ?_
        refine cv_get9 (.inl (.int (μ 13 0 9))) hG v_13 fg_ProphecyShopModel_64_13 rfl rfl d_R_feeds_37 ?_
        refine ev_iload_n (k0 := 3) rfl d_R_feeds_40 ?_
        obtain ⟨b4, h⟩ := chk_some h
        obtain ⟨μ5, e_μ5, h⟩ := nm_some h
        refine cv_iast hG okR v_46 rfl rfl b4 rfl d_R_feeds_41 ?_
        intro G hG; rw [← e_μ5] at hG
        obtain rfl := Option.some.inj h
        exact Ev.sub (.s (.s (.s (.n LSb.z)))) (K_q2 G hG)
    · rw [if_pos c] at h
      refine ev_goto (tgt := 52) (by decide) d_R_feeds_19 ?_
      refine cw_iincN 2 (-8) [some (.inr (0, off 13 0)), some (.inl (.int x1)), some (.inl (.int (x2 + (-8)))), some (.inl (.int v1))] d_R_feeds_52 rfl rfl rfl rfl rfl ?_
      refine ev_goto (tgt := 3) (by decide) d_R_feeds_55 ?_
      exact Ev.sub (.s (.s (.s (.n LSb.z)))) (kC _ (Option.some.inj h).symm G hG)
set_option maxRecDepth 100000 in
set_option maxHeartbeats 4000000 in
theorem w_R_feeds {g : GL} {F G : RG} {nx : Nat} (d : Nat) {x1 : Int32} {μ : Mem}   {o : Mem} (hG : LM vr 535 547 μ F G) (h : f_R_feeds x1 μ = some o) : Mt g (d + 0) m_R_feeds [.inr (0, off 13 0), .inl (.int x1)] (G, nx) 0 0 (pRW vr 535 547 rV o F nx) := by
  unfold f_R_feeds at h
  have kE : ∀ v, o = v → pRW vr 535 547 rV o F nx = pRW vr 535 547 rV v F nx := fun v e => by rw [e]
  refine Mt.of9 [some (.inr (0, off 13 0)), some (.inl (.int x1)), none, none] (by decide +kernel) rfl rfl rfl rfl ?_
  refine cw_bipush 24 d_R_feeds_0 rfl ?_
  refine cw_istoreN_n 2 24 rfl [some (.inr (0, off 13 0)), some (.inl (.int x1)), some (.inl (.int 24)), none] d_R_feeds_2 rfl rfl rfl ?_
  obtain ⟨q1, hl, h⟩ := bind_some9 h
  refine it_ev (W := fun (s : Int32 × Mem) => ∀ G, LM vr 535 547 s.2 F G → Ev g (d + 0) m_R_feeds 3 [some (.inr (0, off 13 0)), some (.inl (.int x1)), some (.inl (.int s.1)), none] [] (G, nx) 0 0 (pRW vr 535 547 rV o F nx)) (X := fun z => z = q1) rfl (fun s9 o9 hs kC9 kX9 => ?_) LIM _ hl G hG
  intro G hG
  refine ws_R_feeds_3 d  hG hs kC9 (fun r_ e G hG => ?_)
  · obtain rfl := (kX9 _ e).symm
    have hP := kE _ (Option.some.inj h).symm
    exact ev_return (st := []) rfl d_R_feeds_58 (by rw [hP]; exact ⟨rfl, hG, rfl⟩)

/-- ProphecyShopModel.append -/
def f_R_append (x1 : Int32) (x2 : Int32) (x3 : Int32) (x4 : Int32) (x5 : Int32) (μ : Mem) : Option (Int32 × Mem) :=
  nm (st3 μ 13 0 7 0) (fun μ1 => nm (μ1 13 0 9 : Int32) (fun v2 => ((f_R_feeds x1 μ1)).bind (fun r3 => ((f_R_feeds x2 r3)).bind (fun r4 => ((f_R_feeds x3 r4)).bind (fun r5 => ((f_R_feeds x4 r5)).bind (fun r6 => ((f_R_feeds x5 r6)).bind (fun r7 => ((if (800 : Int32) < (r7 13 0 9) then (some (0)) else (some (1)) : Option (Int32))).bind (fun q8 => ((f_R_right q8 1 r7)).bind (fun r9 => if r9.1 = 0 then (nm (st3 r9.2 13 0 9 v2) (fun μ10 => some ((0, μ10)))) else (some ((r9.2 13 0 9, r9.2))))))))))))
set_option maxRecDepth 100000 in
set_option maxHeartbeats 4000000 in
theorem w_R_append {g : GL} {F G : RG} {nx : Nat} (d : Nat) {x1 : Int32} {x2 : Int32} {x3 : Int32} {x4 : Int32} {x5 : Int32} {μ : Mem}   {o : Int32 × Mem} (hG : LM vr 535 547 μ F G) (h : f_R_append x1 x2 x3 x4 x5 μ = some o) : Mt g (d + 1) m_R_append [.inr (0, off 13 0), .inl (.int x1), .inl (.int x2), .inl (.int x3), .inl (.int x4), .inl (.int x5)] (G, nx) 0 0 (pRW vr 535 547 (rI o.1) o.2 F nx) := by
  unfold f_R_append at h
  have kE : ∀ v, o = v → pRW vr 535 547 (rI o.1) o.2 F nx = pRW vr 535 547 (rI v.1) v.2 F nx := fun v e => by rw [e]
  refine Mt.of9 [some (.inr (0, off 13 0)), some (.inl (.int x1)), some (.inl (.int x2)), some (.inl (.int x3)), some (.inl (.int x4)), some (.inl (.int x5)), none] (by decide +kernel) rfl rfl rfl rfl ?_
  refine ev_aload_n (k0 := 0) rfl d_R_append_0 ?_
  refine cw_iconst 0 d_R_append_1 rfl ?_
  obtain ⟨μ1, e_μ1, h⟩ := nm_some h
  refine cv_put (.inl (.int 0)) 0 hG okR v_13 fl_ProphecyShopModel_73_13 rfl rfl okv_int d_R_append_2 ?_
  intro G hG; rw [← e_μ1] at hG
  refine ev_aload_n (k0 := 0) rfl d_R_append_5 ?_
  refine cv_get9 (.inl (.int (μ1 13 0 9))) hG v_13 fg_ProphecyShopModel_64_13 rfl rfl d_R_append_6 ?_
  obtain ⟨v2, e_v2, h⟩ := nm_some h
  refine cw_istoreN 6 v2 e_v2 [some (.inr (0, off 13 0)), some (.inl (.int x1)), some (.inl (.int x2)), some (.inl (.int x3)), some (.inl (.int x4)), some (.inl (.int x5)), some (.inl (.int v2))] d_R_append_9 rfl rfl rfl ?_
  refine ev_aload_n (k0 := 0) rfl d_R_append_11 ?_
  refine ev_iload_n (k0 := 1) rfl d_R_append_12 ?_
  obtain ⟨r3, hr3, h⟩ := bind_some9 h
  refine cv_V (d := d + 0) (mc1 := 0) (ms1 := 0) (mc := 0) (ms := 0) [.inl (.int x1)] hG v_13 rfl lk_ProphecyShopModel_125 (w_R_feeds (d + 0) hG hr3) rfl rfl d_R_append_13 (aft_rw (fun G hG => ?_))
  refine Ev.at (pc' := 16) rfl (Ev.cong (st' := []) ?_ rfl rfl)
  refine ev_aload_n (k0 := 0) rfl d_R_append_16 ?_
  refine ev_iload_n (k0 := 2) rfl d_R_append_17 ?_
  obtain ⟨r4, hr4, h⟩ := bind_some9 h
  refine cv_V (d := d + 0) (mc1 := 0) (ms1 := 0) (mc := 0) (ms := 0) [.inl (.int x2)] hG v_13 rfl lk_ProphecyShopModel_125 (w_R_feeds (d + 0) hG hr4) rfl rfl d_R_append_18 (aft_rw (fun G hG => ?_))
  refine Ev.at (pc' := 21) rfl (Ev.cong (st' := []) ?_ rfl rfl)
  refine ev_aload_n (k0 := 0) rfl d_R_append_21 ?_
  refine ev_iload_n (k0 := 3) rfl d_R_append_22 ?_
  obtain ⟨r5, hr5, h⟩ := bind_some9 h
  refine cv_V (d := d + 0) (mc1 := 0) (ms1 := 0) (mc := 0) (ms := 0) [.inl (.int x3)] hG v_13 rfl lk_ProphecyShopModel_125 (w_R_feeds (d + 0) hG hr5) rfl rfl d_R_append_23 (aft_rw (fun G hG => ?_))
  refine Ev.at (pc' := 26) rfl (Ev.cong (st' := []) ?_ rfl rfl)
  refine ev_aload_n (k0 := 0) rfl d_R_append_26 ?_
  refine ev_iload (i := 4) rfl d_R_append_27 ?_
  obtain ⟨r6, hr6, h⟩ := bind_some9 h
  refine cv_V (d := d + 0) (mc1 := 0) (ms1 := 0) (mc := 0) (ms := 0) [.inl (.int x4)] hG v_13 rfl lk_ProphecyShopModel_125 (w_R_feeds (d + 0) hG hr6) rfl rfl d_R_append_29 (aft_rw (fun G hG => ?_))
  refine Ev.at (pc' := 32) rfl (Ev.cong (st' := []) ?_ rfl rfl)
  refine ev_aload_n (k0 := 0) rfl d_R_append_32 ?_
  refine ev_iload (i := 5) rfl d_R_append_33 ?_
  obtain ⟨r7, hr7, h⟩ := bind_some9 h
  refine cv_V (d := d + 0) (mc1 := 0) (ms1 := 0) (mc := 0) (ms := 0) [.inl (.int x5)] hG v_13 rfl lk_ProphecyShopModel_125 (w_R_feeds (d + 0) hG hr7) rfl rfl d_R_append_35 (aft_rw (fun G hG => ?_))
  refine Ev.at (pc' := 38) rfl (Ev.cong (st' := []) ?_ rfl rfl)
  refine ev_aload_n (k0 := 0) rfl d_R_append_38 ?_
  refine ev_aload_n (k0 := 0) rfl d_R_append_39 ?_
  refine cv_get9 (.inl (.int (r7 13 0 9))) hG v_13 fg_ProphecyShopModel_64_13 rfl rfl d_R_append_40 ?_
  refine cw_sipush 800 d_R_append_43 rfl ?_
  obtain ⟨q8, hj, h⟩ := bind_some9 h
  have K_q8 : Ev g (d + 1) m_R_append 54 [some (.inr (0, off 13 0)), none, none, none, none, none, some (.inl (.int v2))] [.inl (.int q8), .inr (0, off 13 0)] (G, nx) 0 0 (pRW vr 535 547 (rI o.1) o.2 F nx) := by
    refine cw_iconst 1 d_R_append_54 rfl ?_
    obtain ⟨r9, hr9, h⟩ := bind_some9 h
    refine cv_V (d := d + 0) (mc1 := 0) (ms1 := 0) (mc := 0) (ms := 0) [.inl (.int q8), .inl (.int 1)] hG v_13 rfl lk_ProphecyShopModel_128 (w_R_right (d + 0) hG hr9) rfl rfl d_R_append_55 (aft_rw (fun G hG => ?_))
    refine Ev.at (pc' := 58) rfl (Ev.cong (st' := [.inl (.int r9.1)]) ?_ rfl rfl)
    refine ev_if_eq (tgt := 66) (by decide) d_R_append_58 (fun c => ?_) (fun c => ?_)
    · rw [if_pos c] at h
      refine ev_aload_n (k0 := 0) rfl d_R_append_66 ?_
      refine ev_iload (i := 6) rfl d_R_append_67 ?_
      obtain ⟨μ10, e_μ10, h⟩ := nm_some h
      refine cv_put (.inl (.int v2)) v2 hG okR v_13 fl_ProphecyShopModel_64_13 rfl rfl okv_int d_R_append_69 ?_
      intro G hG; rw [← e_μ10] at hG
      refine cw_iconst 0 d_R_append_72 rfl ?_
      have hP := kE _ (Option.some.inj h).symm
      exact ev_ireturn (st := []) rfl rfl d_R_append_73 (by rw [hP]; exact ⟨rfl, hG, rfl⟩)
    · rw [if_neg c] at h
      refine ev_aload_n (k0 := 0) rfl d_R_append_61 ?_
      refine cv_get9 (.inl (.int (r9.2 13 0 9))) hG v_13 fg_ProphecyShopModel_64_13 rfl rfl d_R_append_62 ?_
      have hP := kE _ (Option.some.inj h).symm
      exact ev_ireturn (st := []) rfl rfl d_R_append_65 (by rw [hP]; exact ⟨rfl, hG, rfl⟩)
  clear h
  have h := hj
  refine ev_icmp_gt (tgt := 53) (by decide) d_R_append_46 (fun c => ?_) (fun c => ?_)
  · rw [if_pos c] at h
    refine cw_iconst 0 d_R_append_53 rfl ?_
    obtain rfl := Option.some.inj h
    exact Ev.sub (.s (.n (.n (.n (.n (.n (.s LSb.z))))))) (K_q8)
  · rw [if_neg c] at h
    refine cw_iconst 1 d_R_append_49 rfl ?_
    refine ev_goto (tgt := 54) (by decide) d_R_append_50 ?_
    obtain rfl := Option.some.inj h
    exact Ev.sub (.s (.n (.n (.n (.n (.n (.s LSb.z))))))) (K_q8)

/-- ProphecyShopModel.inQueue -/
def s_R_inQueue_2 (x1 : Int32) (x2 : Int32) (μ : Mem) : Option ((Int32) ⊕ ((Unit) ⊕ (Int32))) :=
  chk (inb 12 524) (if (μ 40 0 (12 : Int32).toNatClampNeg) ≤ x2 then (some (.inr (.inl (())))) else (chk (inb (500 + x2) 524) (if (μ 40 0 (500 + x2).toNatClampNeg) = x1 then (some (.inr (.inr x2))) else (some (.inl (x2 + 1))))))
def f_R_inQueue (x1 : Int32) (μ : Mem) : Option (Int32) :=
  (it (fun (s : Int32) => s_R_inQueue_2 x1 s μ) LIM 0).bind (fun q1 => els q1 (fun r2 => some ((-1))) (fun v => some v))
set_option maxRecDepth 100000 in
set_option maxHeartbeats 4000000 in
theorem ws_R_inQueue_2 {g : GL} {F G : RG} {nx mc ms : Nat} {Post : RO → RM → Prop} (d : Nat) {x1 : Int32} {x2 : Int32} {μ : Mem}   {o : (Int32) ⊕ ((Unit) ⊕ (Int32))} (hG : LM vr 535 547 μ F G) (h : s_R_inQueue_2 x1 x2 μ = some o)
    (kC : ∀ s', o = .inl s' → Ev g (d + 0) m_R_inQueue 2 [some (.inr (0, off 13 0)), some (.inl (.int x1)), some (.inl (.int s'))] [] (G, nx) mc ms Post)
    (kX : ∀ r, o = .inr (.inl r) → Ev g (d + 0) m_R_inQueue 35 [none, none, none] [] (G, nx) mc ms Post)
    (kE : ∀ v, o = .inr (.inr v) → Post = pRO (rI v) (G, nx)) : Ev g (d + 0) m_R_inQueue 2 [some (.inr (0, off 13 0)), some (.inl (.int x1)), some (.inl (.int x2))] [] (G, nx) mc ms Post := by
  unfold s_R_inQueue_2 at h
  refine ev_iload_n (k0 := 2) rfl d_R_inQueue_2 ?_
  refine ev_aload_n (k0 := 0) rfl d_R_inQueue_3 ?_
  refine cv_get9 (.inr (0, off 40 0)) hG v_13 fg_ProphecyShopModel_7_13 rfl rfl d_R_inQueue_4 ?_
  refine cw_bipush 12 d_R_inQueue_7 rfl ?_
  obtain ⟨b1, h⟩ := chk_some h
  refine cv_iald hG v_40 rfl rfl b1 rfl d_R_inQueue_9 ?_
  refine ev_icmp_ge (tgt := 35) (by decide) d_R_inQueue_10 (fun c => ?_) (fun c => ?_)
  · rw [if_pos c] at h
    exact Ev.sub (.n (.n (.n LSb.z))) (kX _ (Option.some.inj h).symm)
  · rw [if_neg c] at h
    refine ev_aload_n (k0 := 0) rfl d_R_inQueue_13 ?_
    refine cv_get9 (.inr (0, off 40 0)) hG v_13 fg_ProphecyShopModel_7_13 rfl rfl d_R_inQueue_14 ?_
    refine cw_sipush 500 d_R_inQueue_17 rfl ?_
    refine ev_iload_n (k0 := 2) rfl d_R_inQueue_20 ?_
    refine ev_iadd d_R_inQueue_21 ?_
    obtain ⟨b2, h⟩ := chk_some h
    refine cv_iald hG v_40 rfl rfl b2 rfl d_R_inQueue_22 ?_
    refine ev_iload_n (k0 := 1) rfl d_R_inQueue_23 ?_
    refine ev_icmp_ne (tgt := 29) (by decide) d_R_inQueue_24 (fun c => ?_) (fun c => ?_)
    · rw [if_neg c] at h
      refine cw_iincN 2 1 [some (.inr (0, off 13 0)), some (.inl (.int x1)), some (.inl (.int (x2 + 1)))] d_R_inQueue_29 rfl rfl rfl rfl rfl ?_
      refine ev_goto (tgt := 2) (by decide) d_R_inQueue_32 ?_
      exact kC _ (Option.some.inj h).symm
    · rw [if_pos c] at h
      refine ev_iload_n (k0 := 2) rfl d_R_inQueue_27 ?_
      have hP := kE _ (Option.some.inj h).symm
      exact ev_ireturn (st := []) rfl rfl d_R_inQueue_28 (by rw [hP]; exact ⟨rfl, rfl⟩)
set_option maxRecDepth 100000 in
set_option maxHeartbeats 4000000 in
theorem w_R_inQueue {g : GL} {F G : RG} {nx : Nat} (d : Nat) {x1 : Int32} {μ : Mem}   {o : Int32} (hG : LM vr 535 547 μ F G) (h : f_R_inQueue x1 μ = some o) : Mt g (d + 0) m_R_inQueue [.inr (0, off 13 0), .inl (.int x1)] (G, nx) 0 0 (pRO (rI o) (G, nx)) := by
  unfold f_R_inQueue at h
  have kE : ∀ v, o = v → pRO (rI o) (G, nx) = pRO (rI v) (G, nx) := fun v e => by rw [e]
  refine Mt.of9 [some (.inr (0, off 13 0)), some (.inl (.int x1)), none] (by decide +kernel) rfl rfl rfl rfl ?_
  refine cw_iconst 0 d_R_inQueue_0 rfl ?_
  refine cw_istoreN_n 2 0 rfl [some (.inr (0, off 13 0)), some (.inl (.int x1)), some (.inl (.int 0))] d_R_inQueue_1 rfl rfl rfl ?_
  obtain ⟨q1, hl, h⟩ := bind_some9 h
  refine it_ev (W := fun (s : Int32) => Ev g (d + 0) m_R_inQueue 2 [some (.inr (0, off 13 0)), some (.inl (.int x1)), some (.inl (.int s))] [] (G, nx) 0 0 (pRO (rI o) (G, nx))) (X := fun z => z = q1) rfl (fun s9 o9 hs kC9 kX9 => ?_) LIM _ hl
  refine ws_R_inQueue_2 d  hG hs kC9 (fun r2 e => ?_) (fun v e => ?_)
  · obtain rfl := kX9 _ e
    rw [els_l] at h
    refine cw_iconst (-1) d_R_inQueue_35 rfl ?_
    have hP := kE _ (Option.some.inj h).symm
    exact ev_ireturn (st := []) rfl rfl d_R_inQueue_36 (by rw [hP]; exact ⟨rfl, rfl⟩)
  · obtain rfl := kX9 _ e
    rw [els_r] at h
    exact kE _ (Option.some.inj h).symm

/-- ProphecyShopModel.asking -/
def f_R_asking (x1 : Int32) (μ : Mem) : Option (Int32 × Mem) :=
  ((f_R_isProphecy x1 μ)).bind (fun r1 => ((f_R_right r1 1 μ)).bind (fun r2 => if r2.1 = 0 then (some ((0, r2.2))) else (((f_R_inQueue x1 r2.2)).bind (fun r3 => ((if r3 = ((-1)) then (some (1)) else (some (0)) : Option (Int32))).bind (fun q4 => ((f_R_right q4 2 r2.2)).bind (fun r5 => if r5.1 = 0 then (some ((0, r5.2))) else (((f_R_changes r5.2)).bind (fun r6 => chk (inb 12 524) (chk (inb (500 + (r6 40 0 (12 : Int32).toNatClampNeg)) 524) (nm (st3 r6 40 0 (500 + (r6 40 0 (12 : Int32).toNatClampNeg)).toNatClampNeg x1) (fun μ9 => chk (inb 12 524) (chk (inb 12 524) (nm (st3 μ9 40 0 (12 : Int32).toNatClampNeg ((μ9 40 0 (12 : Int32).toNatClampNeg) + 1)) (fun μ12 => chk (inb 12 524) (some ((μ12 40 0 (12 : Int32).toNatClampNeg, μ12)))))))))))))))))
set_option maxRecDepth 100000 in
set_option maxHeartbeats 4000000 in
theorem w_R_asking {g : GL} {F G : RG} {nx : Nat} (d : Nat) {x1 : Int32} {μ : Mem}   {o : Int32 × Mem} (hG : LM vr 535 547 μ F G) (h : f_R_asking x1 μ = some o) : Mt g (d + 2) m_R_asking [.inr (0, off 13 0), .inl (.int x1)] (G, nx) 0 0 (pRW vr 535 547 (rI o.1) o.2 F nx) := by
  unfold f_R_asking at h
  have kE : ∀ v, o = v → pRW vr 535 547 (rI o.1) o.2 F nx = pRW vr 535 547 (rI v.1) v.2 F nx := fun v e => by rw [e]
  refine Mt.of9 [some (.inr (0, off 13 0)), some (.inl (.int x1))] (by decide +kernel) rfl rfl rfl rfl ?_
  refine ev_aload_n (k0 := 0) rfl d_R_asking_0 ?_
  refine ev_aload_n (k0 := 0) rfl d_R_asking_1 ?_
  refine ev_iload_n (k0 := 1) rfl d_R_asking_2 ?_
  obtain ⟨r1, hr1, h⟩ := bind_some9 h
  refine cv_V (d := d + 1) (mc1 := 0) (ms1 := 0) (mc := 0) (ms := 0) [.inl (.int x1)] hG v_13 rfl lk_ProphecyShopModel_346 (w_R_isProphecy (d + 0) hG hr1) rfl rfl d_R_asking_3 (aft_ro ?_)
  refine Ev.at (pc' := 6) rfl (Ev.cong (st' := [.inl (.int r1), .inr (0, off 13 0)]) ?_ rfl rfl)
  refine cw_iconst 1 d_R_asking_6 rfl ?_
  obtain ⟨r2, hr2, h⟩ := bind_some9 h
  refine cv_V (d := d + 1) (mc1 := 0) (ms1 := 0) (mc := 0) (ms := 0) [.inl (.int r1), .inl (.int 1)] hG v_13 rfl lk_ProphecyShopModel_128 (w_R_right (d + 1) hG hr2) rfl rfl d_R_asking_7 (aft_rw (fun G hG => ?_))
  refine Ev.at (pc' := 10) rfl (Ev.cong (st' := [.inl (.int r2.1)]) ?_ rfl rfl)
  refine ev_if_eq (tgt := 35) (by decide) d_R_asking_10 (fun c => ?_) (fun c => ?_)
  · rw [if_pos c] at h
    refine cw_iconst 0 d_R_asking_35 rfl ?_
    have hP := kE _ (Option.some.inj h).symm
    exact ev_ireturn (st := []) rfl rfl d_R_asking_36 (by rw [hP]; exact ⟨rfl, hG, rfl⟩)
  · rw [if_neg c] at h
    refine ev_aload_n (k0 := 0) rfl d_R_asking_13 ?_
    refine ev_aload_n (k0 := 0) rfl d_R_asking_14 ?_
    refine ev_iload_n (k0 := 1) rfl d_R_asking_15 ?_
    obtain ⟨r3, hr3, h⟩ := bind_some9 h
    refine cv_V (d := d + 1) (mc1 := 0) (ms1 := 0) (mc := 0) (ms := 0) [.inl (.int x1)] hG v_13 rfl lk_ProphecyShopModel_352 (w_R_inQueue (d + 1) hG hr3) rfl rfl d_R_asking_16 (aft_ro ?_)
    refine Ev.at (pc' := 19) rfl (Ev.cong (st' := [.inl (.int r3), .inr (0, off 13 0)]) ?_ rfl rfl)
    refine cw_iconst (-1) d_R_asking_19 rfl ?_
    obtain ⟨q4, hj, h⟩ := bind_some9 h
    have K_q4 : Ev g (d + 2) m_R_asking 28 [some (.inr (0, off 13 0)), some (.inl (.int x1))] [.inl (.int q4), .inr (0, off 13 0)] (G, nx) 0 0 (pRW vr 535 547 (rI o.1) o.2 F nx) := by
      refine cw_iconst 2 d_R_asking_28 rfl ?_
      obtain ⟨r5, hr5, h⟩ := bind_some9 h
      refine cv_V (d := d + 1) (mc1 := 0) (ms1 := 0) (mc := 0) (ms := 0) [.inl (.int q4), .inl (.int 2)] hG v_13 rfl lk_ProphecyShopModel_128 (w_R_right (d + 1) hG hr5) rfl rfl d_R_asking_29 (aft_rw (fun G hG => ?_))
      refine Ev.at (pc' := 32) rfl (Ev.cong (st' := [.inl (.int r5.1)]) ?_ rfl rfl)
      refine ev_if_ne (tgt := 37) (by decide) d_R_asking_32 (fun c => ?_) (fun c => ?_)
      · rw [if_neg c] at h
        refine ev_aload_n (k0 := 0) rfl d_R_asking_37 ?_
        obtain ⟨r6, hr6, h⟩ := bind_some9 h
        refine cv_V (d := d + 1) (mc1 := 0) (ms1 := 0) (mc := 0) (ms := 0) [] hG v_13 rfl lk_ProphecyShopModel_382 (w_R_changes (d + 0) hG hr6) rfl rfl d_R_asking_38 (aft_rw (fun G hG => ?_))
        refine Ev.at (pc' := 41) rfl (Ev.cong (st' := []) ?_ rfl rfl)
        refine ev_aload_n (k0 := 0) rfl d_R_asking_41 ?_
        refine cv_get9 (.inr (0, off 40 0)) hG v_13 fg_ProphecyShopModel_7_13 rfl rfl d_R_asking_42 ?_
        refine cw_sipush 500 d_R_asking_45 rfl ?_
        refine ev_aload_n (k0 := 0) rfl d_R_asking_48 ?_
        refine cv_get9 (.inr (0, off 40 0)) hG v_13 fg_ProphecyShopModel_7_13 rfl rfl d_R_asking_49 ?_
        refine cw_bipush 12 d_R_asking_52 rfl ?_
        obtain ⟨b7, h⟩ := chk_some h
        refine cv_iald hG v_40 rfl rfl b7 rfl d_R_asking_54 ?_
        refine ev_iadd d_R_asking_55 ?_
        refine ev_iload_n (k0 := 1) rfl d_R_asking_56 ?_
        obtain ⟨b8, h⟩ := chk_some h
        obtain ⟨μ9, e_μ9, h⟩ := nm_some h
        refine cv_iast hG okR v_40 rfl rfl b8 rfl d_R_asking_57 ?_
        intro G hG; rw [← e_μ9] at hG
        refine ev_aload_n (k0 := 0) rfl d_R_asking_58 ?_
        refine Ev.at (pc' := 59) rfl ?_
        refine cv_get9 (.inr (0, off 40 0)) hG v_13 fg_ProphecyShopModel_7_13 rfl rfl d_R_asking_59 ?_
        refine cw_bipush 12 d_R_asking_62 rfl ?_
        refine ev_dup2 rfl rfl d_R_asking_64 ?_
        obtain ⟨b10, h⟩ := chk_some h
        refine cv_iald hG v_40 rfl rfl b10 rfl d_R_asking_65 ?_
        refine cw_iconst 1 d_R_asking_66 rfl ?_
        refine ev_iadd d_R_asking_67 ?_
        obtain ⟨b11, h⟩ := chk_some h
        obtain ⟨μ12, e_μ12, h⟩ := nm_some h
        refine cv_iast hG okR v_40 rfl rfl b11 rfl d_R_asking_68 ?_
        intro G hG; rw [← e_μ12] at hG
        refine ev_aload_n (k0 := 0) rfl d_R_asking_69 ?_
        refine cv_get9 (.inr (0, off 40 0)) hG v_13 fg_ProphecyShopModel_7_13 rfl rfl d_R_asking_70 ?_
        refine cw_bipush 12 d_R_asking_73 rfl ?_
        obtain ⟨b13, h⟩ := chk_some h
        refine cv_iald hG v_40 rfl rfl b13 rfl d_R_asking_75 ?_
        have hP := kE _ (Option.some.inj h).symm
        exact ev_ireturn (st := []) rfl rfl d_R_asking_76 (by rw [hP]; exact ⟨rfl, hG, rfl⟩)
      · rw [if_pos c] at h
        refine cw_iconst 0 d_R_asking_35 rfl ?_
        have hP := kE _ (Option.some.inj h).symm
        exact ev_ireturn (st := []) rfl rfl d_R_asking_36 (by rw [hP]; exact ⟨rfl, hG, rfl⟩)
    clear h
    have h := hj
    refine ev_icmp_ne (tgt := 27) (by decide) d_R_asking_20 (fun c => ?_) (fun c => ?_)
    · rw [if_neg c] at h
      refine cw_iconst 0 d_R_asking_27 rfl ?_
      obtain rfl := Option.some.inj h
      exact K_q4
    · rw [if_pos c] at h
      refine cw_iconst 1 d_R_asking_23 rfl ?_
      refine ev_goto (tgt := 28) (by decide) d_R_asking_24 ?_
      obtain rfl := Option.some.inj h
      exact K_q4

/-- ProphecyShopModel.ask -/
def f_R_ask (x1 : Int32) (μ : Mem) : Option (Int32 × Mem) :=
  nm (st3 μ 13 0 7 0) (fun μ1 => ((f_R_asking x1 μ1)).bind (fun r2 => some ((r2.1, r2.2))))
set_option maxRecDepth 100000 in
set_option maxHeartbeats 4000000 in
theorem w_R_ask {g : GL} {F G : RG} {nx : Nat} (d : Nat) {x1 : Int32} {μ : Mem}   {o : Int32 × Mem} (hG : LM vr 535 547 μ F G) (h : f_R_ask x1 μ = some o) : Mt g (d + 3) m_R_ask [.inr (0, off 13 0), .inl (.int x1)] (G, nx) 0 0 (pRW vr 535 547 (rI o.1) o.2 F nx) := by
  unfold f_R_ask at h
  have kE : ∀ v, o = v → pRW vr 535 547 (rI o.1) o.2 F nx = pRW vr 535 547 (rI v.1) v.2 F nx := fun v e => by rw [e]
  refine Mt.of9 [some (.inr (0, off 13 0)), some (.inl (.int x1))] (by decide +kernel) rfl rfl rfl rfl ?_
  refine ev_aload_n (k0 := 0) rfl d_R_ask_0 ?_
  refine cw_iconst 0 d_R_ask_1 rfl ?_
  obtain ⟨μ1, e_μ1, h⟩ := nm_some h
  refine cv_put (.inl (.int 0)) 0 hG okR v_13 fl_ProphecyShopModel_73_13 rfl rfl okv_int d_R_ask_2 ?_
  intro G hG; rw [← e_μ1] at hG
  refine ev_aload_n (k0 := 0) rfl d_R_ask_5 ?_
  refine ev_iload_n (k0 := 1) rfl d_R_ask_6 ?_
  obtain ⟨r2, hr2, h⟩ := bind_some9 h
  refine cv_V (d := d + 2) (mc1 := 0) (ms1 := 0) (mc := 0) (ms := 0) [.inl (.int x1)] hG v_13 rfl lk_ProphecyShopModel_301 (w_R_asking (d + 0) hG hr2) rfl rfl d_R_ask_7 (aft_rw (fun G hG => ?_))
  refine Ev.at (pc' := 10) rfl (Ev.cong (st' := [.inl (.int r2.1)]) ?_ rfl rfl)
  have hP := kE _ (Option.some.inj h).symm
  exact ev_ireturn (st := []) rfl rfl d_R_ask_10 (by rw [hP]; exact ⟨rfl, hG, rfl⟩)

/-- ProphecyShopModel.askedOwl -/
def f_R_askedOwl (x1 : Int32) (x2 : Int32) (μ : Mem) : Option (Int32 × Mem) :=
  nm (st3 μ 13 0 7 0) (fun μ1 => chk (inb 9 524) (((f_R_in x1 0 ((μ1 40 0 (9 : Int32).toNatClampNeg) - 1) μ1)).bind (fun r3 => ((f_R_right r3 1 μ1)).bind (fun r4 => if r4.1 = 0 then (some ((0, r4.2))) else (((f_R_ofOwl x1 x2 r4.2)).bind (fun r5 => some ((r5, r4.2))))))))
set_option maxRecDepth 100000 in
set_option maxHeartbeats 4000000 in
theorem w_R_askedOwl {g : GL} {F G : RG} {nx : Nat} (d : Nat) {x1 : Int32} {x2 : Int32} {μ : Mem}   {o : Int32 × Mem} (hG : LM vr 535 547 μ F G) (h : f_R_askedOwl x1 x2 μ = some o) : Mt g (d + 1) m_R_askedOwl [.inr (0, off 13 0), .inl (.int x1), .inl (.int x2)] (G, nx) 0 0 (pRW vr 535 547 (rI o.1) o.2 F nx) := by
  unfold f_R_askedOwl at h
  have kE : ∀ v, o = v → pRW vr 535 547 (rI o.1) o.2 F nx = pRW vr 535 547 (rI v.1) v.2 F nx := fun v e => by rw [e]
  refine Mt.of9 [some (.inr (0, off 13 0)), some (.inl (.int x1)), some (.inl (.int x2))] (by decide +kernel) rfl rfl rfl rfl ?_
  refine ev_aload_n (k0 := 0) rfl d_R_askedOwl_0 ?_
  refine cw_iconst 0 d_R_askedOwl_1 rfl ?_
  obtain ⟨μ1, e_μ1, h⟩ := nm_some h
  refine cv_put (.inl (.int 0)) 0 hG okR v_13 fl_ProphecyShopModel_73_13 rfl rfl okv_int d_R_askedOwl_2 ?_
  intro G hG; rw [← e_μ1] at hG
  refine ev_aload_n (k0 := 0) rfl d_R_askedOwl_5 ?_
  refine ev_iload_n (k0 := 1) rfl d_R_askedOwl_6 ?_
  refine cw_iconst 0 d_R_askedOwl_7 rfl ?_
  refine ev_aload_n (k0 := 0) rfl d_R_askedOwl_8 ?_
  refine cv_get9 (.inr (0, off 40 0)) hG v_13 fg_ProphecyShopModel_7_13 rfl rfl d_R_askedOwl_9 ?_
  refine cw_bipush 9 d_R_askedOwl_12 rfl ?_
  obtain ⟨b2, h⟩ := chk_some h
  refine cv_iald hG v_40 rfl rfl b2 rfl d_R_askedOwl_14 ?_
  refine cw_iconst 1 d_R_askedOwl_15 rfl ?_
  refine Ev.at (pc' := 16) rfl ?_
  refine ev_isub d_R_askedOwl_16 ?_
  obtain ⟨r3, hr3, h⟩ := bind_some9 h
  refine cw_S (d := d + 0) (mc1 := 0) (ms1 := 0) (mc := 0) (ms := 0) [.inl (.int x1), .inl (.int 0), .inl (.int ((μ1 40 0 (9 : Int32).toNatClampNeg) - 1))] lk_ProphecyShopModel_76 (w_R_in (d + 0) hG hr3) rfl rfl d_R_askedOwl_17 (aft_ro ?_)
  refine Ev.at (pc' := 20) rfl (Ev.cong (st' := [.inl (.int r3), .inr (0, off 13 0)]) ?_ rfl rfl)
  refine cw_iconst 1 d_R_askedOwl_20 rfl ?_
  obtain ⟨r4, hr4, h⟩ := bind_some9 h
  refine cv_V (d := d + 0) (mc1 := 0) (ms1 := 0) (mc := 0) (ms := 0) [.inl (.int r3), .inl (.int 1)] hG v_13 rfl lk_ProphecyShopModel_128 (w_R_right (d + 0) hG hr4) rfl rfl d_R_askedOwl_21 (aft_rw (fun G hG => ?_))
  refine Ev.at (pc' := 24) rfl (Ev.cong (st' := [.inl (.int r4.1)]) ?_ rfl rfl)
  refine ev_if_eq (tgt := 36) (by decide) d_R_askedOwl_24 (fun c => ?_) (fun c => ?_)
  · rw [if_pos c] at h
    refine cw_iconst 0 d_R_askedOwl_36 rfl ?_
    have hP := kE _ (Option.some.inj h).symm
    exact ev_ireturn (st := []) rfl rfl d_R_askedOwl_37 (by rw [hP]; exact ⟨rfl, hG, rfl⟩)
  · rw [if_neg c] at h
    refine ev_aload_n (k0 := 0) rfl d_R_askedOwl_27 ?_
    refine ev_iload_n (k0 := 1) rfl d_R_askedOwl_28 ?_
    refine ev_iload_n (k0 := 2) rfl d_R_askedOwl_29 ?_
    obtain ⟨r5, hr5, h⟩ := bind_some9 h
    refine cv_V (d := d + 0) (mc1 := 0) (ms1 := 0) (mc := 0) (ms := 0) [.inl (.int x1), .inl (.int x2)] hG v_13 rfl lk_ProphecyShopModel_95 (w_R_ofOwl (d + 0) hG hr5) rfl rfl d_R_askedOwl_30 (aft_ro ?_)
    refine Ev.at (pc' := 33) rfl (Ev.cong (st' := [.inl (.int r5)]) ?_ rfl rfl)
    refine ev_goto (tgt := 37) (by decide) d_R_askedOwl_33 ?_
    have hP := kE _ (Option.some.inj h).symm
    exact ev_ireturn (st := []) rfl rfl d_R_askedOwl_37 (by rw [hP]; exact ⟨rfl, hG, rfl⟩)

/-- ProphecyShopModel.back -/
def s_R_back_2 (x1 : Int32) (x2 : Int32) (μ : Mem) : Option ((Int32 × Mem) ⊕ (Mem)) :=
  if (524 : Int32) ≤ x2 then (some (.inr μ)) else (chk (inb x2 524) (chk (inb x2 524) (nm (st3 μ 40 0 x2.toNatClampNeg (μ 41 0 x2.toNatClampNeg)) (fun μ3 => some (.inl ((x2 + 1, μ3)))))))
def f_R_back (x1 : Int32) (μ : Mem) : Option (Int32 × Mem) :=
  (it (fun (s : Int32 × Mem) => s_R_back_2 x1 s.1 s.2) LIM ((0, μ))).bind (fun q1 => some ((x1, q1)))
set_option maxRecDepth 100000 in
set_option maxHeartbeats 4000000 in
theorem ws_R_back_2 {g : GL} {F G : RG} {nx mc ms : Nat} {Post : RO → RM → Prop} (d : Nat) {x1 : Int32} {x2 : Int32} {μ : Mem}   {o : (Int32 × Mem) ⊕ (Mem)} (hG : LM vr 535 547 μ F G) (h : s_R_back_2 x1 x2 μ = some o)
    (kC : ∀ s', o = .inl s' → ∀ G, LM vr 535 547 s'.2 F G → Ev g (d + 0) m_R_back 2 [some (.inr (0, off 13 0)), some (.inl (.int x1)), some (.inl (.int s'.1))] [] (G, nx) mc ms Post)
    (kX : ∀ r, o = .inr r → ∀ G, LM vr 535 547 r F G → Ev g (d + 0) m_R_back 27 [none, some (.inl (.int x1)), none] [] (G, nx) mc ms Post)
    : Ev g (d + 0) m_R_back 2 [some (.inr (0, off 13 0)), some (.inl (.int x1)), some (.inl (.int x2))] [] (G, nx) mc ms Post := by
  unfold s_R_back_2 at h
  refine ev_iload_n (k0 := 2) rfl d_R_back_2 ?_
  refine cw_sipush 524 d_R_back_3 rfl ?_
  refine ev_icmp_ge (tgt := 27) (by decide) d_R_back_6 (fun c => ?_) (fun c => ?_)
  · rw [if_pos c] at h
    exact Ev.sub (.n (.s (.n LSb.z))) (kX _ (Option.some.inj h).symm G hG)
  · rw [if_neg c] at h
    refine ev_aload_n (k0 := 0) rfl d_R_back_9 ?_
    refine cv_get9 (.inr (0, off 40 0)) hG v_13 fg_ProphecyShopModel_7_13 rfl rfl d_R_back_10 ?_
    refine ev_iload_n (k0 := 2) rfl d_R_back_13 ?_
    refine ev_aload_n (k0 := 0) rfl d_R_back_14 ?_
    refine cv_get9 (.inr (0, off 41 0)) hG v_13 fg_ProphecyShopModel_13_13 rfl rfl d_R_back_15 ?_
    refine ev_iload_n (k0 := 2) rfl d_R_back_18 ?_
    obtain ⟨b1, h⟩ := chk_some h
    refine cv_iald hG v_41 rfl rfl b1 rfl d_R_back_19 ?_
    obtain ⟨b2, h⟩ := chk_some h
    obtain ⟨μ3, e_μ3, h⟩ := nm_some h
    refine cv_iast hG okR v_40 rfl rfl b2 rfl d_R_back_20 ?_
    intro G hG; rw [← e_μ3] at hG
    refine cw_iincN 2 1 [some (.inr (0, off 13 0)), some (.inl (.int x1)), some (.inl (.int (x2 + 1)))] d_R_back_21 rfl rfl rfl rfl rfl ?_
    refine ev_goto (tgt := 2) (by decide) d_R_back_24 ?_
    exact kC _ (Option.some.inj h).symm G hG
set_option maxRecDepth 100000 in
set_option maxHeartbeats 4000000 in
theorem w_R_back {g : GL} {F G : RG} {nx : Nat} (d : Nat) {x1 : Int32} {μ : Mem}   {o : Int32 × Mem} (hG : LM vr 535 547 μ F G) (h : f_R_back x1 μ = some o) : Mt g (d + 0) m_R_back [.inr (0, off 13 0), .inl (.int x1)] (G, nx) 0 0 (pRW vr 535 547 (rI o.1) o.2 F nx) := by
  unfold f_R_back at h
  have kE : ∀ v, o = v → pRW vr 535 547 (rI o.1) o.2 F nx = pRW vr 535 547 (rI v.1) v.2 F nx := fun v e => by rw [e]
  refine Mt.of9 [some (.inr (0, off 13 0)), some (.inl (.int x1)), none] (by decide +kernel) rfl rfl rfl rfl ?_
  refine cw_iconst 0 d_R_back_0 rfl ?_
  refine cw_istoreN_n 2 0 rfl [some (.inr (0, off 13 0)), some (.inl (.int x1)), some (.inl (.int 0))] d_R_back_1 rfl rfl rfl ?_
  obtain ⟨q1, hl, h⟩ := bind_some9 h
  refine it_ev (W := fun (s : Int32 × Mem) => ∀ G, LM vr 535 547 s.2 F G → Ev g (d + 0) m_R_back 2 [some (.inr (0, off 13 0)), some (.inl (.int x1)), some (.inl (.int s.1))] [] (G, nx) 0 0 (pRW vr 535 547 (rI o.1) o.2 F nx)) (X := fun z => z = q1) rfl (fun s9 o9 hs kC9 kX9 => ?_) LIM _ hl G hG
  intro G hG
  refine ws_R_back_2 d  hG hs kC9 (fun r_ e G hG => ?_)
  · obtain rfl := (kX9 _ e).symm
    refine ev_iload_n (k0 := 1) rfl d_R_back_27 ?_
    have hP := kE _ (Option.some.inj h).symm
    exact ev_ireturn (st := []) rfl rfl d_R_back_28 (by rw [hP]; exact ⟨rfl, hG, rfl⟩)

/-- ProphecyShopModel.tells -/
def f_R_tells (x1 : Int32) (μ : Mem) : Option (Int32 × Mem) :=
  nm (st3 μ 13 0 7 0) (fun μ1 => chk (inb x1 524) (some ((μ1 40 0 x1.toNatClampNeg, μ1))))
set_option maxRecDepth 100000 in
set_option maxHeartbeats 4000000 in
theorem w_R_tells {g : GL} {F G : RG} {nx : Nat} (d : Nat) {x1 : Int32} {μ : Mem}   {o : Int32 × Mem} (hG : LM vr 535 547 μ F G) (h : f_R_tells x1 μ = some o) : Mt g (d + 0) m_R_tells [.inr (0, off 13 0), .inl (.int x1)] (G, nx) 0 0 (pRW vr 535 547 (rI o.1) o.2 F nx) := by
  unfold f_R_tells at h
  have kE : ∀ v, o = v → pRW vr 535 547 (rI o.1) o.2 F nx = pRW vr 535 547 (rI v.1) v.2 F nx := fun v e => by rw [e]
  refine Mt.of9 [some (.inr (0, off 13 0)), some (.inl (.int x1))] (by decide +kernel) rfl rfl rfl rfl ?_
  refine ev_aload_n (k0 := 0) rfl d_R_tells_0 ?_
  refine cw_iconst 0 d_R_tells_1 rfl ?_
  obtain ⟨μ1, e_μ1, h⟩ := nm_some h
  refine cv_put (.inl (.int 0)) 0 hG okR v_13 fl_ProphecyShopModel_73_13 rfl rfl okv_int d_R_tells_2 ?_
  intro G hG; rw [← e_μ1] at hG
  refine ev_aload_n (k0 := 0) rfl d_R_tells_5 ?_
  refine cv_get9 (.inr (0, off 40 0)) hG v_13 fg_ProphecyShopModel_7_13 rfl rfl d_R_tells_6 ?_
  refine ev_iload_n (k0 := 1) rfl d_R_tells_9 ?_
  obtain ⟨b2, h⟩ := chk_some h
  refine cv_iald hG v_40 rfl rfl b2 rfl d_R_tells_10 ?_
  have hP := kE _ (Option.some.inj h).symm
  exact ev_ireturn (st := []) rfl rfl d_R_tells_11 (by rw [hP]; exact ⟨rfl, hG, rfl⟩)

/-- ProphecyShopModel.cash -/
def f_R_cash  (μ : Mem) : Option (Int32 × Mem) :=
  ((f_R_tells 0 μ)).bind (fun r1 => some ((r1.1, r1.2)))
set_option maxRecDepth 100000 in
set_option maxHeartbeats 4000000 in
theorem w_R_cash {g : GL} {F G : RG} {nx : Nat} (d : Nat)  {μ : Mem}   {o : Int32 × Mem} (hG : LM vr 535 547 μ F G) (h : f_R_cash  μ = some o) : Mt g (d + 1) m_R_cash [.inr (0, off 13 0)] (G, nx) 0 0 (pRW vr 535 547 (rI o.1) o.2 F nx) := by
  unfold f_R_cash at h
  have kE : ∀ v, o = v → pRW vr 535 547 (rI o.1) o.2 F nx = pRW vr 535 547 (rI v.1) v.2 F nx := fun v e => by rw [e]
  refine Mt.of9 [some (.inr (0, off 13 0))] (by decide +kernel) rfl rfl rfl rfl ?_
  refine ev_aload_n (k0 := 0) rfl d_R_cash_0 ?_
  refine cw_iconst 0 d_R_cash_1 rfl ?_
  obtain ⟨r1, hr1, h⟩ := bind_some9 h
  refine cv_V (d := d + 0) (mc1 := 0) (ms1 := 0) (mc := 0) (ms := 0) [.inl (.int 0)] hG v_13 rfl lk_ProphecyShopModel_324 (w_R_tells (d + 0) hG hr1) rfl rfl d_R_cash_2 (aft_rw (fun G hG => ?_))
  refine Ev.at (pc' := 5) rfl (Ev.cong (st' := [.inl (.int r1.1)]) ?_ rfl rfl)
  have hP := kE _ (Option.some.inj h).symm
  exact ev_ireturn (st := []) rfl rfl d_R_cash_5 (by rw [hP]; exact ⟨rfl, hG, rfl⟩)

/-- ProphecyShopModel.tries -/
def s_R_tries_2  (x1 : Int32) (μ : Mem) : Option ((Int32 × Mem) ⊕ (Mem)) :=
  if (524 : Int32) ≤ x1 then (some (.inr μ)) else (chk (inb x1 524) (chk (inb x1 524) (nm (st3 μ 41 0 x1.toNatClampNeg (μ 40 0 x1.toNatClampNeg)) (fun μ3 => some (.inl ((x1 + 1, μ3)))))))
def f_R_tries  (μ : Mem) : Option (Mem) :=
  (it (fun (s : Int32 × Mem) => s_R_tries_2 s.1 s.2) LIM ((0, μ))).bind (fun q1 => some q1)
set_option maxRecDepth 100000 in
set_option maxHeartbeats 4000000 in
theorem ws_R_tries_2 {g : GL} {F G : RG} {nx mc ms : Nat} {Post : RO → RM → Prop} (d : Nat)  {x1 : Int32} {μ : Mem}   {o : (Int32 × Mem) ⊕ (Mem)} (hG : LM vr 535 547 μ F G) (h : s_R_tries_2  x1 μ = some o)
    (kC : ∀ s', o = .inl s' → ∀ G, LM vr 535 547 s'.2 F G → Ev g (d + 0) m_R_tries 2 [some (.inr (0, off 13 0)), some (.inl (.int s'.1))] [] (G, nx) mc ms Post)
    (kX : ∀ r, o = .inr r → ∀ G, LM vr 535 547 r F G → Ev g (d + 0) m_R_tries 27 [none, none] [] (G, nx) mc ms Post)
    : Ev g (d + 0) m_R_tries 2 [some (.inr (0, off 13 0)), some (.inl (.int x1))] [] (G, nx) mc ms Post := by
  unfold s_R_tries_2 at h
  refine ev_iload_n (k0 := 1) rfl d_R_tries_2 ?_
  refine cw_sipush 524 d_R_tries_3 rfl ?_
  refine ev_icmp_ge (tgt := 27) (by decide) d_R_tries_6 (fun c => ?_) (fun c => ?_)
  · rw [if_pos c] at h
    exact Ev.sub (.n (.n LSb.z)) (kX _ (Option.some.inj h).symm G hG)
  · rw [if_neg c] at h
    refine ev_aload_n (k0 := 0) rfl d_R_tries_9 ?_
    refine cv_get9 (.inr (0, off 41 0)) hG v_13 fg_ProphecyShopModel_13_13 rfl rfl d_R_tries_10 ?_
    refine ev_iload_n (k0 := 1) rfl d_R_tries_13 ?_
    refine ev_aload_n (k0 := 0) rfl d_R_tries_14 ?_
    refine cv_get9 (.inr (0, off 40 0)) hG v_13 fg_ProphecyShopModel_7_13 rfl rfl d_R_tries_15 ?_
    refine ev_iload_n (k0 := 1) rfl d_R_tries_18 ?_
    obtain ⟨b1, h⟩ := chk_some h
    refine cv_iald hG v_40 rfl rfl b1 rfl d_R_tries_19 ?_
    obtain ⟨b2, h⟩ := chk_some h
    obtain ⟨μ3, e_μ3, h⟩ := nm_some h
    refine cv_iast hG okR v_41 rfl rfl b2 rfl d_R_tries_20 ?_
    intro G hG; rw [← e_μ3] at hG
    refine cw_iincN 1 1 [some (.inr (0, off 13 0)), some (.inl (.int (x1 + 1)))] d_R_tries_21 rfl rfl rfl rfl rfl ?_
    refine ev_goto (tgt := 2) (by decide) d_R_tries_24 ?_
    exact kC _ (Option.some.inj h).symm G hG
set_option maxRecDepth 100000 in
set_option maxHeartbeats 4000000 in
theorem w_R_tries {g : GL} {F G : RG} {nx : Nat} (d : Nat)  {μ : Mem}   {o : Mem} (hG : LM vr 535 547 μ F G) (h : f_R_tries  μ = some o) : Mt g (d + 0) m_R_tries [.inr (0, off 13 0)] (G, nx) 0 0 (pRW vr 535 547 rV o F nx) := by
  unfold f_R_tries at h
  have kE : ∀ v, o = v → pRW vr 535 547 rV o F nx = pRW vr 535 547 rV v F nx := fun v e => by rw [e]
  refine Mt.of9 [some (.inr (0, off 13 0)), none] (by decide +kernel) rfl rfl rfl rfl ?_
  refine cw_iconst 0 d_R_tries_0 rfl ?_
  refine cw_istoreN_n 1 0 rfl [some (.inr (0, off 13 0)), some (.inl (.int 0))] d_R_tries_1 rfl rfl rfl ?_
  obtain ⟨q1, hl, h⟩ := bind_some9 h
  refine it_ev (W := fun (s : Int32 × Mem) => ∀ G, LM vr 535 547 s.2 F G → Ev g (d + 0) m_R_tries 2 [some (.inr (0, off 13 0)), some (.inl (.int s.1))] [] (G, nx) 0 0 (pRW vr 535 547 rV o F nx)) (X := fun z => z = q1) rfl (fun s9 o9 hs kC9 kX9 => ?_) LIM _ hl G hG
  intro G hG
  refine ws_R_tries_2 d  hG hs kC9 (fun r_ e G hG => ?_)
  · obtain rfl := (kX9 _ e).symm
    have hP := kE _ (Option.some.inj h).symm
    exact ev_return (st := []) rfl d_R_tries_27 (by rw [hP]; exact ⟨rfl, hG, rfl⟩)

/-- ProphecyShopModel.cashAfter -/
def s_R_cashAfter_29 (x1 : Int32) (x2 : Int32) (μ : Mem) : Option ((Int32 × Mem) ⊕ (Mem)) :=
  if x1 ≤ x2 then (some (.inr μ)) else (((f_R_dayPasses μ)).bind (fun r1 => some (.inl ((x2 + 1, r1)))))
def f_R_cashAfter (x1 : Int32) (μ : Mem) : Option (Int32 × Mem) :=
  nm (st3 μ 13 0 7 0) (fun μ1 => ((f_R_in x1 0 300 μ1)).bind (fun r2 => ((f_R_right r2 1 μ1)).bind (fun r3 => if r3.1 = 0 then (some ((0, r3.2))) else (((f_R_tries r3.2)).bind (fun r4 => (it (fun (s : Int32 × Mem) => s_R_cashAfter_29 x1 s.1 s.2) LIM ((0, r4))).bind (fun q5 => chk (inb 0 524) (((f_R_back (q5 40 0 (0 : Int32).toNatClampNeg) q5)).bind (fun r7 => some ((r7.1, r7.2))))))))))
set_option maxRecDepth 100000 in
set_option maxHeartbeats 4000000 in
theorem ws_R_cashAfter_29 {g : GL} {F G : RG} {nx mc ms : Nat} {Post : RO → RM → Prop} (d : Nat) {x1 : Int32} {x2 : Int32} {μ : Mem}   {o : (Int32 × Mem) ⊕ (Mem)} (hG : LM vr 535 547 μ F G) (h : s_R_cashAfter_29 x1 x2 μ = some o)
    (kC : ∀ s', o = .inl s' → ∀ G, LM vr 535 547 s'.2 F G → Ev g (d + 5) m_R_cashAfter 29 [some (.inr (0, off 13 0)), some (.inl (.int x1)), some (.inl (.int s'.1))] [] (G, nx) mc ms Post)
    (kX : ∀ r, o = .inr r → ∀ G, LM vr 535 547 r F G → Ev g (d + 5) m_R_cashAfter 44 [some (.inr (0, off 13 0)), none, none] [] (G, nx) mc ms Post)
    : Ev g (d + 5) m_R_cashAfter 29 [some (.inr (0, off 13 0)), some (.inl (.int x1)), some (.inl (.int x2))] [] (G, nx) mc ms Post := by
  unfold s_R_cashAfter_29 at h
  refine ev_iload_n (k0 := 2) rfl d_R_cashAfter_29 ?_
  refine ev_iload_n (k0 := 1) rfl d_R_cashAfter_30 ?_
  refine ev_icmp_ge (tgt := 44) (by decide) d_R_cashAfter_31 (fun c => ?_) (fun c => ?_)
  · rw [if_pos c] at h
    exact Ev.sub (.s (.n (.n LSb.z))) (kX _ (Option.some.inj h).symm G hG)
  · rw [if_neg c] at h
    refine ev_aload_n (k0 := 0) rfl d_R_cashAfter_34 ?_
    obtain ⟨r1, hr1, h⟩ := bind_some9 h
    refine Ev.z9 ?_
    refine cv_V (d := d + 4) (mc1 := 0) (ms1 := 0) (mc := mc) (ms := ms) [] hG v_13 rfl lk_ProphecyShopModel_370 (w_R_dayPasses (d + 0) hG hr1) rfl rfl d_R_cashAfter_35 (aft_rw (fun G hG => ?_))
    refine Ev.at (pc' := 38) rfl (Ev.cong (st' := []) ?_ rfl rfl)
    refine cw_iincN 2 1 [some (.inr (0, off 13 0)), some (.inl (.int x1)), some (.inl (.int (x2 + 1)))] d_R_cashAfter_38 rfl rfl rfl rfl rfl ?_
    refine ev_goto (tgt := 29) (by decide) d_R_cashAfter_41 ?_
    exact kC _ (Option.some.inj h).symm G hG
set_option maxRecDepth 100000 in
set_option maxHeartbeats 4000000 in
theorem w_R_cashAfter {g : GL} {F G : RG} {nx : Nat} (d : Nat) {x1 : Int32} {μ : Mem}   {o : Int32 × Mem} (hG : LM vr 535 547 μ F G) (h : f_R_cashAfter x1 μ = some o) : Mt g (d + 5) m_R_cashAfter [.inr (0, off 13 0), .inl (.int x1)] (G, nx) 0 0 (pRW vr 535 547 (rI o.1) o.2 F nx) := by
  unfold f_R_cashAfter at h
  have kE : ∀ v, o = v → pRW vr 535 547 (rI o.1) o.2 F nx = pRW vr 535 547 (rI v.1) v.2 F nx := fun v e => by rw [e]
  refine Mt.of9 [some (.inr (0, off 13 0)), some (.inl (.int x1)), none] (by decide +kernel) rfl rfl rfl rfl ?_
  refine ev_aload_n (k0 := 0) rfl d_R_cashAfter_0 ?_
  refine cw_iconst 0 d_R_cashAfter_1 rfl ?_
  obtain ⟨μ1, e_μ1, h⟩ := nm_some h
  refine cv_put (.inl (.int 0)) 0 hG okR v_13 fl_ProphecyShopModel_73_13 rfl rfl okv_int d_R_cashAfter_2 ?_
  intro G hG; rw [← e_μ1] at hG
  refine ev_aload_n (k0 := 0) rfl d_R_cashAfter_5 ?_
  refine ev_iload_n (k0 := 1) rfl d_R_cashAfter_6 ?_
  refine cw_iconst 0 d_R_cashAfter_7 rfl ?_
  refine cw_sipush 300 d_R_cashAfter_8 rfl ?_
  obtain ⟨r2, hr2, h⟩ := bind_some9 h
  refine cw_S (d := d + 4) (mc1 := 0) (ms1 := 0) (mc := 0) (ms := 0) [.inl (.int x1), .inl (.int 0), .inl (.int 300)] lk_ProphecyShopModel_76 (w_R_in (d + 4) hG hr2) rfl rfl d_R_cashAfter_11 (aft_ro ?_)
  refine Ev.at (pc' := 14) rfl (Ev.cong (st' := [.inl (.int r2), .inr (0, off 13 0)]) ?_ rfl rfl)
  refine cw_iconst 1 d_R_cashAfter_14 rfl ?_
  obtain ⟨r3, hr3, h⟩ := bind_some9 h
  refine cv_V (d := d + 4) (mc1 := 0) (ms1 := 0) (mc := 0) (ms := 0) [.inl (.int r2), .inl (.int 1)] hG v_13 rfl lk_ProphecyShopModel_128 (w_R_right (d + 4) hG hr3) rfl rfl d_R_cashAfter_15 (aft_rw (fun G hG => ?_))
  refine Ev.at (pc' := 18) rfl (Ev.cong (st' := [.inl (.int r3.1)]) ?_ rfl rfl)
  refine ev_if_ne (tgt := 23) (by decide) d_R_cashAfter_18 (fun c => ?_) (fun c => ?_)
  · rw [if_neg c] at h
    refine ev_aload_n (k0 := 0) rfl d_R_cashAfter_23 ?_
    obtain ⟨r4, hr4, h⟩ := bind_some9 h
    refine cv_V (d := d + 4) (mc1 := 0) (ms1 := 0) (mc := 0) (ms := 0) [] hG v_13 rfl lk_ProphecyShopModel_364 (w_R_tries (d + 4) hG hr4) rfl rfl d_R_cashAfter_24 (aft_rw (fun G hG => ?_))
    refine Ev.at (pc' := 27) rfl (Ev.cong (st' := []) ?_ rfl rfl)
    refine cw_iconst 0 d_R_cashAfter_27 rfl ?_
    refine cw_istoreN_n 2 0 rfl [some (.inr (0, off 13 0)), some (.inl (.int x1)), some (.inl (.int 0))] d_R_cashAfter_28 rfl rfl rfl ?_
    obtain ⟨q5, hl, h⟩ := bind_some9 h
    refine it_ev (W := fun (s : Int32 × Mem) => ∀ G, LM vr 535 547 s.2 F G → Ev g (d + 5) m_R_cashAfter 29 [some (.inr (0, off 13 0)), some (.inl (.int x1)), some (.inl (.int s.1))] [] (G, nx) 0 0 (pRW vr 535 547 (rI o.1) o.2 F nx)) (X := fun z => z = q5) rfl (fun s9 o9 hs kC9 kX9 => ?_) LIM _ hl G hG
    intro G hG
    refine ws_R_cashAfter_29 d  hG hs kC9 (fun r_ e G hG => ?_)
    · obtain rfl := (kX9 _ e).symm
      refine ev_aload_n (k0 := 0) rfl d_R_cashAfter_44 ?_
      refine ev_aload_n (k0 := 0) rfl d_R_cashAfter_45 ?_
      refine cv_get9 (.inr (0, off 40 0)) hG v_13 fg_ProphecyShopModel_7_13 rfl rfl d_R_cashAfter_46 ?_
      refine cw_iconst 0 d_R_cashAfter_49 rfl ?_
      obtain ⟨b6, h⟩ := chk_some h
      refine cv_iald hG v_40 rfl rfl b6 rfl d_R_cashAfter_50 ?_
      obtain ⟨r7, hr7, h⟩ := bind_some9 h
      refine cv_V (d := d + 4) (mc1 := 0) (ms1 := 0) (mc := 0) (ms := 0) [.inl (.int (q5 40 0 (0 : Int32).toNatClampNeg))] hG v_13 rfl lk_ProphecyShopModel_367 (w_R_back (d + 4) hG hr7) rfl rfl d_R_cashAfter_51 (aft_rw (fun G hG => ?_))
      refine Ev.at (pc' := 54) rfl (Ev.cong (st' := [.inl (.int r7.1)]) ?_ rfl rfl)
      have hP := kE _ (Option.some.inj h).symm
      exact ev_ireturn (st := []) rfl rfl d_R_cashAfter_54 (by rw [hP]; exact ⟨rfl, hG, rfl⟩)
  · rw [if_pos c] at h
    refine cw_iconst 0 d_R_cashAfter_21 rfl ?_
    have hP := kE _ (Option.some.inj h).symm
    exact ev_ireturn (st := []) rfl rfl d_R_cashAfter_22 (by rw [hP]; exact ⟨rfl, hG, rfl⟩)

/-- ProphecyShopModel.isWord -/
def s_R_isWord_35 (w1 : Nat) (x2 : Int32) (μ : Mem) : Option ((Int32) ⊕ ((Unit) ⊕ (Int32))) :=
  if (sLen w1) ≤ x2 then (some (.inr (.inl (())))) else (chk (inb ((μ 13 0 13) + x2) 800) (chk (inb x2 (sTx w1).length) (if (μ 46 0 ((μ 13 0 13) + x2).toNatClampNeg) = (sAt w1 x2) then (some (.inl (x2 + 1))) else (some (.inr (.inr 0))))))
def f_R_isWord (w1 : Nat) (μ : Mem) : Option (Int32) :=
  if (μ 13 0 16) = 0 then (if (μ 13 0 14) = 1 then (if ((μ 13 0 12) - (μ 13 0 13)) = (sLen w1) then ((it (fun (s : Int32) => s_R_isWord_35 w1 s μ) LIM 0).bind (fun q1 => els q1 (fun r2 => some 1) (fun v => some v))) else (some 0)) else (some 0)) else (some 0)
set_option maxRecDepth 100000 in
set_option maxHeartbeats 4000000 in
theorem ws_R_isWord_35 {g : GL} {F G : RG} {nx mc ms : Nat} {Post : RO → RM → Prop} (d : Nat) {w1 : Nat} {x2 : Int32} {μ : Mem} (hw1 : w1 < 40) (hSG : SG g) {o : (Int32) ⊕ ((Unit) ⊕ (Int32))} (hG : LM vr 535 547 μ F G) (h : s_R_isWord_35 w1 x2 μ = some o)
    (kC : ∀ s', o = .inl s' → Ev g (d + 6) m_R_isWord 35 [some (.inr (0, off 13 0)), some (.inr (1, w1)), some (.inl (.int s'))] [] (G, nx) mc ms Post)
    (kX : ∀ r, o = .inr (.inl r) → Ev g (d + 6) m_R_isWord 70 [none, none, none] [] (G, nx) mc ms Post)
    (kE : ∀ v, o = .inr (.inr v) → Post = pRO (rI v) (G, nx)) : Ev g (d + 6) m_R_isWord 35 [some (.inr (0, off 13 0)), some (.inr (1, w1)), some (.inl (.int x2))] [] (G, nx) mc ms Post := by
  unfold s_R_isWord_35 at h
  refine ev_iload_n (k0 := 2) rfl d_R_isWord_35 ?_
  refine ev_aload_n (k0 := 1) rfl d_R_isWord_36 ?_
  refine cv_slen (d := d + 0) hSG hw1 lk_ProphecyShopModel_54 rfl d_R_isWord_37 ?_
  refine ev_icmp_ge (tgt := 70) (by decide) d_R_isWord_40 (fun c => ?_) (fun c => ?_)
  · rw [if_pos c] at h
    exact Ev.sub (.n (.n (.n LSb.z))) (kX _ (Option.some.inj h).symm)
  · rw [if_neg c] at h
    refine ev_aload_n (k0 := 0) rfl d_R_isWord_43 ?_
    refine cv_get9 (.inr (0, off 46 0)) hG v_13 fg_ProphecyShopModel_29_13 rfl rfl d_R_isWord_44 ?_
    refine ev_aload_n (k0 := 0) rfl d_R_isWord_47 ?_
    refine cv_get9 (.inl (.int (μ 13 0 13))) hG v_13 fg_ProphecyShopModel_141_13 rfl rfl d_R_isWord_48 ?_
    refine ev_iload_n (k0 := 2) rfl d_R_isWord_51 ?_
    refine ev_iadd d_R_isWord_52 ?_
    obtain ⟨b1, h⟩ := chk_some h
    refine cv_iald hG v_46 rfl rfl b1 rfl d_R_isWord_53 ?_
    refine ev_aload_n (k0 := 1) rfl d_R_isWord_54 ?_
    refine ev_iload_n (k0 := 2) rfl d_R_isWord_55 ?_
    obtain ⟨b2, h⟩ := chk_some h
    refine cv_sat (d := d + 0) hSG hw1 b2 lk_ProphecyShopModel_60 rfl d_R_isWord_56 ?_
    refine ev_icmp_eq (tgt := 64) (by decide) d_R_isWord_59 (fun c => ?_) (fun c => ?_)
    · rw [if_pos c] at h
      refine cw_iincN 2 1 [some (.inr (0, off 13 0)), some (.inr (1, w1)), some (.inl (.int (x2 + 1)))] d_R_isWord_64 rfl rfl rfl rfl rfl ?_
      refine ev_goto (tgt := 35) (by decide) d_R_isWord_67 ?_
      exact kC _ (Option.some.inj h).symm
    · rw [if_neg c] at h
      refine cw_iconst 0 d_R_isWord_62 rfl ?_
      have hP := kE _ (Option.some.inj h).symm
      exact ev_ireturn (st := []) rfl rfl d_R_isWord_63 (by rw [hP]; exact ⟨rfl, rfl⟩)
set_option maxRecDepth 100000 in
set_option maxHeartbeats 4000000 in
theorem w_R_isWord {g : GL} {F G : RG} {nx : Nat} (d : Nat) {w1 : Nat} {μ : Mem} (hw1 : w1 < 40) (hSG : SG g) {o : Int32} (hG : LM vr 535 547 μ F G) (h : f_R_isWord w1 μ = some o) : Mt g (d + 6) m_R_isWord [.inr (0, off 13 0), .inr (1, w1)] (G, nx) 0 0 (pRO (rI o) (G, nx)) := by
  unfold f_R_isWord at h
  have kE : ∀ v, o = v → pRO (rI o) (G, nx) = pRO (rI v) (G, nx) := fun v e => by rw [e]
  refine Mt.of9 [some (.inr (0, off 13 0)), some (.inr (1, w1)), none] (by decide +kernel) rfl rfl rfl rfl ?_
  refine ev_aload_n (k0 := 0) rfl d_R_isWord_0 ?_
  refine cv_get9 (.inl (.int (μ 13 0 16))) hG v_13 fg_ProphecyShopModel_156_13 rfl rfl d_R_isWord_1 ?_
  refine ev_if_ne (tgt := 31) (by decide) d_R_isWord_4 (fun c => ?_) (fun c => ?_)
  · rw [if_neg c] at h
    refine cw_iconst 0 d_R_isWord_31 rfl ?_
    have hP := kE _ (Option.some.inj h).symm
    exact ev_ireturn (st := []) rfl rfl d_R_isWord_32 (by rw [hP]; exact ⟨rfl, rfl⟩)
  · rw [if_pos c] at h
    refine ev_aload_n (k0 := 0) rfl d_R_isWord_7 ?_
    refine cv_get9 (.inl (.int (μ 13 0 14))) hG v_13 fg_ProphecyShopModel_144_13 rfl rfl d_R_isWord_8 ?_
    refine cw_iconst 1 d_R_isWord_11 rfl ?_
    refine ev_icmp_ne (tgt := 31) (by decide) d_R_isWord_12 (fun c => ?_) (fun c => ?_)
    · rw [if_neg c] at h
      refine cw_iconst 0 d_R_isWord_31 rfl ?_
      have hP := kE _ (Option.some.inj h).symm
      exact ev_ireturn (st := []) rfl rfl d_R_isWord_32 (by rw [hP]; exact ⟨rfl, rfl⟩)
    · rw [if_pos c] at h
      refine ev_aload_n (k0 := 0) rfl d_R_isWord_15 ?_
      refine cv_get9 (.inl (.int (μ 13 0 12))) hG v_13 fg_ProphecyShopModel_135_13 rfl rfl d_R_isWord_16 ?_
      refine ev_aload_n (k0 := 0) rfl d_R_isWord_19 ?_
      refine cv_get9 (.inl (.int (μ 13 0 13))) hG v_13 fg_ProphecyShopModel_141_13 rfl rfl d_R_isWord_20 ?_
      refine ev_isub d_R_isWord_23 ?_
      refine ev_aload_n (k0 := 1) rfl d_R_isWord_24 ?_
      refine cv_slen (d := d + 0) hSG hw1 lk_ProphecyShopModel_54 rfl d_R_isWord_25 ?_
      refine ev_icmp_eq (tgt := 33) (by decide) d_R_isWord_28 (fun c => ?_) (fun c => ?_)
      · rw [if_pos c] at h
        refine cw_iconst 0 d_R_isWord_33 rfl ?_
        refine cw_istoreN_n 2 0 rfl [some (.inr (0, off 13 0)), some (.inr (1, w1)), some (.inl (.int 0))] d_R_isWord_34 rfl rfl rfl ?_
        obtain ⟨q1, hl, h⟩ := bind_some9 h
        refine it_ev (W := fun (s : Int32) => Ev g (d + 6) m_R_isWord 35 [some (.inr (0, off 13 0)), some (.inr (1, w1)), some (.inl (.int s))] [] (G, nx) 0 0 (pRO (rI o) (G, nx))) (X := fun z => z = q1) rfl (fun s9 o9 hs kC9 kX9 => ?_) LIM _ hl
        refine ws_R_isWord_35 d hw1 hSG hG hs kC9 (fun r2 e => ?_) (fun v e => ?_)
        · obtain rfl := kX9 _ e
          rw [els_l] at h
          refine cw_iconst 1 d_R_isWord_70 rfl ?_
          have hP := kE _ (Option.some.inj h).symm
          exact ev_ireturn (st := []) rfl rfl d_R_isWord_71 (by rw [hP]; exact ⟨rfl, rfl⟩)
        · obtain rfl := kX9 _ e
          rw [els_r] at h
          exact kE _ (Option.some.inj h).symm
      · rw [if_neg c] at h
        refine cw_iconst 0 d_R_isWord_31 rfl ?_
        have hP := kE _ (Option.some.inj h).symm
        exact ev_ireturn (st := []) rfl rfl d_R_isWord_32 (by rw [hP]; exact ⟨rfl, rfl⟩)

/-- ProphecyShopModel.commandHere -/
def f_R_commandHere  (μ : Mem) : Option (Int32) :=
  ((f_R_isWord 32 μ)).bind (fun r1 => if r1 = 0 then (((f_R_isWord 33 μ)).bind (fun r2 => if r2 = 0 then (((f_R_isWord 34 μ)).bind (fun r3 => if r3 = 0 then (((f_R_isWord 35 μ)).bind (fun r4 => if r4 = 0 then (((f_R_isWord 36 μ)).bind (fun r5 => if r5 = 0 then (some ((-1))) else (some 4))) else (some 3))) else (some 2))) else (some 1))) else (some 0))
set_option maxRecDepth 100000 in
set_option maxHeartbeats 4000000 in
theorem w_R_commandHere {g : GL} {F G : RG} {nx : Nat} (d : Nat)  {μ : Mem}  (hSG : SG g) {o : Int32} (hG : LM vr 535 547 μ F G) (h : f_R_commandHere  μ = some o) : Mt g (d + 7) m_R_commandHere [.inr (0, off 13 0)] (G, nx) 0 0 (pRO (rI o) (G, nx)) := by
  unfold f_R_commandHere at h
  have kE : ∀ v, o = v → pRO (rI o) (G, nx) = pRO (rI v) (G, nx) := fun v e => by rw [e]
  refine Mt.of9 [some (.inr (0, off 13 0))] (by decide +kernel) rfl rfl rfl rfl ?_
  refine ev_aload_n (k0 := 0) rfl d_R_commandHere_0 ?_
  refine ev_ldcS st_32 d_R_commandHere_1 ?_
  obtain ⟨r1, hr1, h⟩ := bind_some9 h
  refine cv_V (d := d + 6) (mc1 := 0) (ms1 := 0) (mc := 0) (ms := 0) [.inr (1, 32)] hG v_13 rfl lk_ProphecyShopModel_200 (w_R_isWord (d + 0) (by decide) hSG hG hr1) rfl rfl d_R_commandHere_3 (aft_ro ?_)
  refine Ev.at (pc' := 6) rfl (Ev.cong (st' := [.inl (.int r1)]) ?_ rfl rfl)
  refine ev_if_eq (tgt := 11) (by decide) d_R_commandHere_6 (fun c => ?_) (fun c => ?_)
  · rw [if_pos c] at h
    refine ev_aload_n (k0 := 0) rfl d_R_commandHere_11 ?_
    refine ev_ldcS st_33 d_R_commandHere_12 ?_
    obtain ⟨r2, hr2, h⟩ := bind_some9 h
    refine cv_V (d := d + 6) (mc1 := 0) (ms1 := 0) (mc := 0) (ms := 0) [.inr (1, 33)] hG v_13 rfl lk_ProphecyShopModel_200 (w_R_isWord (d + 0) (by decide) hSG hG hr2) rfl rfl d_R_commandHere_14 (aft_ro ?_)
    refine Ev.at (pc' := 17) rfl (Ev.cong (st' := [.inl (.int r2)]) ?_ rfl rfl)
    refine ev_if_eq (tgt := 22) (by decide) d_R_commandHere_17 (fun c => ?_) (fun c => ?_)
    · rw [if_pos c] at h
      refine ev_aload_n (k0 := 0) rfl d_R_commandHere_22 ?_
      refine ev_ldcS st_34 d_R_commandHere_23 ?_
      obtain ⟨r3, hr3, h⟩ := bind_some9 h
      refine cv_V (d := d + 6) (mc1 := 0) (ms1 := 0) (mc := 0) (ms := 0) [.inr (1, 34)] hG v_13 rfl lk_ProphecyShopModel_200 (w_R_isWord (d + 0) (by decide) hSG hG hr3) rfl rfl d_R_commandHere_25 (aft_ro ?_)
      refine Ev.at (pc' := 28) rfl (Ev.cong (st' := [.inl (.int r3)]) ?_ rfl rfl)
      refine ev_if_eq (tgt := 33) (by decide) d_R_commandHere_28 (fun c => ?_) (fun c => ?_)
      · rw [if_pos c] at h
        refine ev_aload_n (k0 := 0) rfl d_R_commandHere_33 ?_
        refine ev_ldcS st_35 d_R_commandHere_34 ?_
        obtain ⟨r4, hr4, h⟩ := bind_some9 h
        refine cv_V (d := d + 6) (mc1 := 0) (ms1 := 0) (mc := 0) (ms := 0) [.inr (1, 35)] hG v_13 rfl lk_ProphecyShopModel_200 (w_R_isWord (d + 0) (by decide) hSG hG hr4) rfl rfl d_R_commandHere_36 (aft_ro ?_)
        refine Ev.at (pc' := 39) rfl (Ev.cong (st' := [.inl (.int r4)]) ?_ rfl rfl)
        refine ev_if_eq (tgt := 44) (by decide) d_R_commandHere_39 (fun c => ?_) (fun c => ?_)
        · rw [if_pos c] at h
          refine ev_aload_n (k0 := 0) rfl d_R_commandHere_44 ?_
          refine ev_ldcS st_36 d_R_commandHere_45 ?_
          obtain ⟨r5, hr5, h⟩ := bind_some9 h
          refine cv_V (d := d + 6) (mc1 := 0) (ms1 := 0) (mc := 0) (ms := 0) [.inr (1, 36)] hG v_13 rfl lk_ProphecyShopModel_200 (w_R_isWord (d + 0) (by decide) hSG hG hr5) rfl rfl d_R_commandHere_47 (aft_ro ?_)
          refine Ev.at (pc' := 50) rfl (Ev.cong (st' := [.inl (.int r5)]) ?_ rfl rfl)
          refine ev_if_eq (tgt := 57) (by decide) d_R_commandHere_50 (fun c => ?_) (fun c => ?_)
          · rw [if_pos c] at h
            refine cw_iconst (-1) d_R_commandHere_57 rfl ?_
            have hP := kE _ (Option.some.inj h).symm
            exact ev_ireturn (st := []) rfl rfl d_R_commandHere_58 (by rw [hP]; exact ⟨rfl, rfl⟩)
          · rw [if_neg c] at h
            refine cw_iconst 4 d_R_commandHere_53 rfl ?_
            refine ev_goto (tgt := 58) (by decide) d_R_commandHere_54 ?_
            have hP := kE _ (Option.some.inj h).symm
            exact ev_ireturn (st := []) rfl rfl d_R_commandHere_58 (by rw [hP]; exact ⟨rfl, rfl⟩)
        · rw [if_neg c] at h
          refine cw_iconst 3 d_R_commandHere_42 rfl ?_
          have hP := kE _ (Option.some.inj h).symm
          exact ev_ireturn (st := []) rfl rfl d_R_commandHere_43 (by rw [hP]; exact ⟨rfl, rfl⟩)
      · rw [if_neg c] at h
        refine cw_iconst 2 d_R_commandHere_31 rfl ?_
        have hP := kE _ (Option.some.inj h).symm
        exact ev_ireturn (st := []) rfl rfl d_R_commandHere_32 (by rw [hP]; exact ⟨rfl, rfl⟩)
    · rw [if_neg c] at h
      refine cw_iconst 1 d_R_commandHere_20 rfl ?_
      have hP := kE _ (Option.some.inj h).symm
      exact ev_ireturn (st := []) rfl rfl d_R_commandHere_21 (by rw [hP]; exact ⟨rfl, rfl⟩)
  · rw [if_neg c] at h
    refine cw_iconst 0 d_R_commandHere_9 rfl ?_
    have hP := kE _ (Option.some.inj h).symm
    exact ev_ireturn (st := []) rfl rfl d_R_commandHere_10 (by rw [hP]; exact ⟨rfl, rfl⟩)

/-- ProphecyShopModel.contradictions -/
def s_R_contradictions_19 (x2 : Int32) (x3 : Int32) (x1 : Int32) (x4 : Int32) (μ : Mem) : Option ((Int32 × Int32) ⊕ (Int32)) :=
  chk (inb 8 524) (if (μ 40 0 (8 : Int32).toNatClampNeg) ≤ x4 then (some (.inr x1)) else (((f_R_ofCustomer x4 1 μ)).bind (fun r2 => nm (x1 + r2 : Int32) (fun v3 => some (.inl ((v3, x4 + 1)))))))
def s_R_contradictions_50 (x2 : Int32) (x3 : Int32) (x1 : Int32) (x4 : Int32) (μ : Mem) : Option ((Int32 × Int32) ⊕ (Int32)) :=
  chk (inb 9 524) (if (μ 40 0 (9 : Int32).toNatClampNeg) ≤ x4 then (some (.inr x1)) else (((f_R_ofOwl x4 2 μ)).bind (fun r2 => nm (x1 + r2 : Int32) (fun v3 => some (.inl ((v3, x4 + 1)))))))
def s_R_contradictions_81 (x1 : Int32) (x2 : Int32) (x3 : Int32) (x4 : Int32) (μ : Mem) : Option ((Int32 × Int32 × Int32) ⊕ (Int32 × Int32)) :=
  chk (inb 10 524) (if (μ 40 0 (10 : Int32).toNatClampNeg) ≤ x4 then (some (.inr ((x2, x3)))) else (((f_R_of x4 7 μ)).bind (fun r2 => ((if r2 = 3 then (((f_R_refund x4 μ)).bind (fun r7 => nm (x2 + r7 : Int32) (fun v8 => some (v8)))) else (some (x2)) : Option (Int32))).bind (fun q3 => ((f_R_of x4 7 μ)).bind (fun r4 => if r4 = 0 then (((f_R_of x4 5 μ)).bind (fun r5 => chk (inb 5 524) (if (μ 40 0 (5 : Int32).toNatClampNeg) ≤ r5 then (some (.inl ((q3, x3, x4 + 1)))) else (some (.inl ((q3, x3 + 1, x4 + 1))))))) else (some (.inl ((q3, x3, x4 + 1)))))))))
def f_R_contradictions  (μ : Mem) : Option (Int32 × Mem) :=
  nm (st3 μ 13 0 7 0) (fun μ1 => chk (inb 0 524) (nm (μ1 40 0 (0 : Int32).toNatClampNeg : Int32) (fun v3 => (it (fun (s : Int32 × Int32) => s_R_contradictions_19 0 0 s.1 s.2 μ1) LIM ((v3, 0))).bind (fun q4 => (it (fun (s : Int32 × Int32) => s_R_contradictions_50 0 0 s.1 s.2 μ1) LIM ((q4, 0))).bind (fun q5 => (it (fun (s : Int32 × Int32 × Int32) => s_R_contradictions_81 q5 s.1 s.2.1 s.2.2 μ1) LIM ((0, 0, 0))).bind (fun q6 => chk (inb 15 524) (chk (inb 14 524) (some (((q6.2 + (if 0 ≤ ((μ1 40 0 (15 : Int32).toNatClampNeg) - q5) then ((μ1 40 0 (15 : Int32).toNatClampNeg) - q5) else 0 - ((μ1 40 0 (15 : Int32).toNatClampNeg) - q5))) + (if 0 ≤ ((μ1 40 0 (14 : Int32).toNatClampNeg) - q6.1) then ((μ1 40 0 (14 : Int32).toNatClampNeg) - q6.1) else 0 - ((μ1 40 0 (14 : Int32).toNatClampNeg) - q6.1)), μ1))))))))))
set_option maxRecDepth 100000 in
set_option maxHeartbeats 4000000 in
theorem ws_R_contradictions_19 {g : GL} {F G : RG} {nx mc ms : Nat} {Post : RO → RM → Prop} (d : Nat) {x2 : Int32} {x3 : Int32} {x1 : Int32} {x4 : Int32} {μ : Mem}   {o : (Int32 × Int32) ⊕ (Int32)} (hG : LM vr 535 547 μ F G) (h : s_R_contradictions_19 x2 x3 x1 x4 μ = some o)
    (kC : ∀ s', o = .inl s' → Ev g (d + 2) m_R_contradictions 19 [some (.inr (0, off 13 0)), some (.inl (.int s'.1)), some (.inl (.int x2)), some (.inl (.int x3)), some (.inl (.int s'.2))] [] (G, nx) mc ms Post)
    (kX : ∀ r, o = .inr r → Ev g (d + 2) m_R_contradictions 47 [some (.inr (0, off 13 0)), some (.inl (.int r)), some (.inl (.int x2)), some (.inl (.int x3)), none] [] (G, nx) mc ms Post)
    : Ev g (d + 2) m_R_contradictions 19 [some (.inr (0, off 13 0)), some (.inl (.int x1)), some (.inl (.int x2)), some (.inl (.int x3)), some (.inl (.int x4))] [] (G, nx) mc ms Post := by
  unfold s_R_contradictions_19 at h
  refine ev_iload (i := 4) rfl d_R_contradictions_19 ?_
  refine ev_aload_n (k0 := 0) rfl d_R_contradictions_21 ?_
  refine cv_get9 (.inr (0, off 40 0)) hG v_13 fg_ProphecyShopModel_7_13 rfl rfl d_R_contradictions_22 ?_
  refine cw_bipush 8 d_R_contradictions_25 rfl ?_
  obtain ⟨b1, h⟩ := chk_some h
  refine cv_iald hG v_40 rfl rfl b1 rfl d_R_contradictions_27 ?_
  refine ev_icmp_ge (tgt := 47) (by decide) d_R_contradictions_28 (fun c => ?_) (fun c => ?_)
  · rw [if_pos c] at h
    exact Ev.sub (.s (.s (.s (.s (.n LSb.z))))) (kX _ (Option.some.inj h).symm)
  · rw [if_neg c] at h
    refine ev_iload_n (k0 := 1) rfl d_R_contradictions_31 ?_
    refine ev_aload_n (k0 := 0) rfl d_R_contradictions_32 ?_
    refine ev_iload (i := 4) rfl d_R_contradictions_33 ?_
    refine cw_iconst 1 d_R_contradictions_35 rfl ?_
    obtain ⟨r2, hr2, h⟩ := bind_some9 h
    refine Ev.z9 ?_
    refine cv_V (d := d + 1) (mc1 := 0) (ms1 := 0) (mc := mc) (ms := ms) [.inl (.int x4), .inl (.int 1)] hG v_13 rfl lk_ProphecyShopModel_101 (w_R_ofCustomer (d + 1) hG hr2) rfl rfl d_R_contradictions_36 (aft_ro ?_)
    refine Ev.at (pc' := 39) rfl (Ev.cong (st' := [.inl (.int r2), .inl (.int x1)]) ?_ rfl rfl)
    refine ev_iadd d_R_contradictions_39 ?_
    obtain ⟨v3, e_v3, h⟩ := nm_some h
    refine cw_istoreN_n 1 v3 e_v3 [some (.inr (0, off 13 0)), some (.inl (.int v3)), some (.inl (.int x2)), some (.inl (.int x3)), some (.inl (.int x4))] d_R_contradictions_40 rfl rfl rfl ?_
    refine cw_iincN 4 1 [some (.inr (0, off 13 0)), some (.inl (.int v3)), some (.inl (.int x2)), some (.inl (.int x3)), some (.inl (.int (x4 + 1)))] d_R_contradictions_41 rfl rfl rfl rfl rfl ?_
    refine ev_goto (tgt := 19) (by decide) d_R_contradictions_44 ?_
    exact kC _ (Option.some.inj h).symm
set_option maxRecDepth 100000 in
set_option maxHeartbeats 4000000 in
theorem ws_R_contradictions_50 {g : GL} {F G : RG} {nx mc ms : Nat} {Post : RO → RM → Prop} (d : Nat) {x2 : Int32} {x3 : Int32} {x1 : Int32} {x4 : Int32} {μ : Mem}   {o : (Int32 × Int32) ⊕ (Int32)} (hG : LM vr 535 547 μ F G) (h : s_R_contradictions_50 x2 x3 x1 x4 μ = some o)
    (kC : ∀ s', o = .inl s' → Ev g (d + 2) m_R_contradictions 50 [some (.inr (0, off 13 0)), some (.inl (.int s'.1)), some (.inl (.int x2)), some (.inl (.int x3)), some (.inl (.int s'.2))] [] (G, nx) mc ms Post)
    (kX : ∀ r, o = .inr r → Ev g (d + 2) m_R_contradictions 78 [some (.inr (0, off 13 0)), some (.inl (.int r)), some (.inl (.int x2)), some (.inl (.int x3)), none] [] (G, nx) mc ms Post)
    : Ev g (d + 2) m_R_contradictions 50 [some (.inr (0, off 13 0)), some (.inl (.int x1)), some (.inl (.int x2)), some (.inl (.int x3)), some (.inl (.int x4))] [] (G, nx) mc ms Post := by
  unfold s_R_contradictions_50 at h
  refine ev_iload (i := 4) rfl d_R_contradictions_50 ?_
  refine ev_aload_n (k0 := 0) rfl d_R_contradictions_52 ?_
  refine cv_get9 (.inr (0, off 40 0)) hG v_13 fg_ProphecyShopModel_7_13 rfl rfl d_R_contradictions_53 ?_
  refine cw_bipush 9 d_R_contradictions_56 rfl ?_
  obtain ⟨b1, h⟩ := chk_some h
  refine cv_iald hG v_40 rfl rfl b1 rfl d_R_contradictions_58 ?_
  refine ev_icmp_ge (tgt := 78) (by decide) d_R_contradictions_59 (fun c => ?_) (fun c => ?_)
  · rw [if_pos c] at h
    exact Ev.sub (.s (.s (.s (.s (.n LSb.z))))) (kX _ (Option.some.inj h).symm)
  · rw [if_neg c] at h
    refine ev_iload_n (k0 := 1) rfl d_R_contradictions_62 ?_
    refine ev_aload_n (k0 := 0) rfl d_R_contradictions_63 ?_
    refine ev_iload (i := 4) rfl d_R_contradictions_64 ?_
    refine cw_iconst 2 d_R_contradictions_66 rfl ?_
    obtain ⟨r2, hr2, h⟩ := bind_some9 h
    refine Ev.z9 ?_
    refine cv_V (d := d + 1) (mc1 := 0) (ms1 := 0) (mc := mc) (ms := ms) [.inl (.int x4), .inl (.int 2)] hG v_13 rfl lk_ProphecyShopModel_95 (w_R_ofOwl (d + 1) hG hr2) rfl rfl d_R_contradictions_67 (aft_ro ?_)
    refine Ev.at (pc' := 70) rfl (Ev.cong (st' := [.inl (.int r2), .inl (.int x1)]) ?_ rfl rfl)
    refine ev_iadd d_R_contradictions_70 ?_
    obtain ⟨v3, e_v3, h⟩ := nm_some h
    refine cw_istoreN_n 1 v3 e_v3 [some (.inr (0, off 13 0)), some (.inl (.int v3)), some (.inl (.int x2)), some (.inl (.int x3)), some (.inl (.int x4))] d_R_contradictions_71 rfl rfl rfl ?_
    refine cw_iincN 4 1 [some (.inr (0, off 13 0)), some (.inl (.int v3)), some (.inl (.int x2)), some (.inl (.int x3)), some (.inl (.int (x4 + 1)))] d_R_contradictions_72 rfl rfl rfl rfl rfl ?_
    refine ev_goto (tgt := 50) (by decide) d_R_contradictions_75 ?_
    exact kC _ (Option.some.inj h).symm
set_option maxRecDepth 100000 in
set_option maxHeartbeats 4000000 in
theorem ws_R_contradictions_81 {g : GL} {F G : RG} {nx mc ms : Nat} {Post : RO → RM → Prop} (d : Nat) {x1 : Int32} {x2 : Int32} {x3 : Int32} {x4 : Int32} {μ : Mem}   {o : (Int32 × Int32 × Int32) ⊕ (Int32 × Int32)} (hG : LM vr 535 547 μ F G) (h : s_R_contradictions_81 x1 x2 x3 x4 μ = some o)
    (kC : ∀ s', o = .inl s' → Ev g (d + 2) m_R_contradictions 81 [some (.inr (0, off 13 0)), some (.inl (.int x1)), some (.inl (.int s'.1)), some (.inl (.int s'.2.1)), some (.inl (.int s'.2.2))] [] (G, nx) mc ms Post)
    (kX : ∀ r, o = .inr r → Ev g (d + 2) m_R_contradictions 150 [some (.inr (0, off 13 0)), some (.inl (.int x1)), some (.inl (.int r.1)), some (.inl (.int r.2)), none] [] (G, nx) mc ms Post)
    : Ev g (d + 2) m_R_contradictions 81 [some (.inr (0, off 13 0)), some (.inl (.int x1)), some (.inl (.int x2)), some (.inl (.int x3)), some (.inl (.int x4))] [] (G, nx) mc ms Post := by
  unfold s_R_contradictions_81 at h
  refine ev_iload (i := 4) rfl d_R_contradictions_81 ?_
  refine ev_aload_n (k0 := 0) rfl d_R_contradictions_83 ?_
  refine cv_get9 (.inr (0, off 40 0)) hG v_13 fg_ProphecyShopModel_7_13 rfl rfl d_R_contradictions_84 ?_
  refine cw_bipush 10 d_R_contradictions_87 rfl ?_
  obtain ⟨b1, h⟩ := chk_some h
  refine cv_iald hG v_40 rfl rfl b1 rfl d_R_contradictions_89 ?_
  refine ev_icmp_ge (tgt := 150) (by decide) d_R_contradictions_90 (fun c => ?_) (fun c => ?_)
  · rw [if_pos c] at h
    exact Ev.sub (.s (.s (.s (.s (.n LSb.z))))) (kX _ (Option.some.inj h).symm)
  · rw [if_neg c] at h
    refine ev_aload_n (k0 := 0) rfl d_R_contradictions_93 ?_
    refine ev_iload (i := 4) rfl d_R_contradictions_94 ?_
    refine cw_bipush 7 d_R_contradictions_96 rfl ?_
    obtain ⟨r2, hr2, h⟩ := bind_some9 h
    refine Ev.z9 ?_
    refine cv_V (d := d + 1) (mc1 := 0) (ms1 := 0) (mc := mc) (ms := ms) [.inl (.int x4), .inl (.int 7)] hG v_13 rfl lk_ProphecyShopModel_84 (w_R_of (d + 1) hG hr2) rfl rfl d_R_contradictions_98 (aft_ro ?_)
    refine Ev.at (pc' := 101) rfl (Ev.cong (st' := [.inl (.int r2)]) ?_ rfl rfl)
    refine cw_iconst 3 d_R_contradictions_101 rfl ?_
    obtain ⟨q3, hj, h⟩ := bind_some9 h
    have K_q3 : Ev g (d + 2) m_R_contradictions 114 [some (.inr (0, off 13 0)), some (.inl (.int x1)), some (.inl (.int q3)), some (.inl (.int x3)), some (.inl (.int x4))] [] (G, nx) mc ms Post := by
      refine ev_aload_n (k0 := 0) rfl d_R_contradictions_114 ?_
      refine ev_iload (i := 4) rfl d_R_contradictions_115 ?_
      refine cw_bipush 7 d_R_contradictions_117 rfl ?_
      obtain ⟨r4, hr4, h⟩ := bind_some9 h
      refine Ev.z9 ?_
      refine cv_V (d := d + 1) (mc1 := 0) (ms1 := 0) (mc := mc) (ms := ms) [.inl (.int x4), .inl (.int 7)] hG v_13 rfl lk_ProphecyShopModel_84 (w_R_of (d + 1) hG hr4) rfl rfl d_R_contradictions_119 (aft_ro ?_)
      refine Ev.at (pc' := 122) rfl (Ev.cong (st' := [.inl (.int r4)]) ?_ rfl rfl)
      refine ev_if_ne (tgt := 144) (by decide) d_R_contradictions_122 (fun c => ?_) (fun c => ?_)
      · rw [if_neg c] at h
        refine cw_iincN 4 1 [some (.inr (0, off 13 0)), some (.inl (.int x1)), some (.inl (.int q3)), some (.inl (.int x3)), some (.inl (.int (x4 + 1)))] d_R_contradictions_144 rfl rfl rfl rfl rfl ?_
        refine ev_goto (tgt := 81) (by decide) d_R_contradictions_147 ?_
        exact kC _ (Option.some.inj h).symm
      · rw [if_pos c] at h
        refine ev_aload_n (k0 := 0) rfl d_R_contradictions_125 ?_
        refine ev_iload (i := 4) rfl d_R_contradictions_126 ?_
        refine cw_iconst 5 d_R_contradictions_128 rfl ?_
        obtain ⟨r5, hr5, h⟩ := bind_some9 h
        refine Ev.z9 ?_
        refine cv_V (d := d + 1) (mc1 := 0) (ms1 := 0) (mc := mc) (ms := ms) [.inl (.int x4), .inl (.int 5)] hG v_13 rfl lk_ProphecyShopModel_84 (w_R_of (d + 1) hG hr5) rfl rfl d_R_contradictions_129 (aft_ro ?_)
        refine Ev.at (pc' := 132) rfl (Ev.cong (st' := [.inl (.int r5)]) ?_ rfl rfl)
        refine ev_aload_n (k0 := 0) rfl d_R_contradictions_132 ?_
        refine cv_get9 (.inr (0, off 40 0)) hG v_13 fg_ProphecyShopModel_7_13 rfl rfl d_R_contradictions_133 ?_
        refine cw_iconst 5 d_R_contradictions_136 rfl ?_
        obtain ⟨b6, h⟩ := chk_some h
        refine cv_iald hG v_40 rfl rfl b6 rfl d_R_contradictions_137 ?_
        refine ev_icmp_ge (tgt := 144) (by decide) d_R_contradictions_138 (fun c => ?_) (fun c => ?_)
        · rw [if_pos c] at h
          refine cw_iincN 4 1 [some (.inr (0, off 13 0)), some (.inl (.int x1)), some (.inl (.int q3)), some (.inl (.int x3)), some (.inl (.int (x4 + 1)))] d_R_contradictions_144 rfl rfl rfl rfl rfl ?_
          refine ev_goto (tgt := 81) (by decide) d_R_contradictions_147 ?_
          exact kC _ (Option.some.inj h).symm
        · rw [if_neg c] at h
          refine cw_iincN 3 1 [some (.inr (0, off 13 0)), some (.inl (.int x1)), some (.inl (.int q3)), some (.inl (.int (x3 + 1))), some (.inl (.int x4))] d_R_contradictions_141 rfl rfl rfl rfl rfl ?_
          refine cw_iincN 4 1 [some (.inr (0, off 13 0)), some (.inl (.int x1)), some (.inl (.int q3)), some (.inl (.int (x3 + 1))), some (.inl (.int (x4 + 1)))] d_R_contradictions_144 rfl rfl rfl rfl rfl ?_
          refine ev_goto (tgt := 81) (by decide) d_R_contradictions_147 ?_
          exact kC _ (Option.some.inj h).symm
    clear h
    have h := hj
    refine ev_icmp_ne (tgt := 114) (by decide) d_R_contradictions_102 (fun c => ?_) (fun c => ?_)
    · rw [if_neg c] at h
      obtain rfl := Option.some.inj h
      exact K_q3
    · rw [if_pos c] at h
      refine ev_iload_n (k0 := 2) rfl d_R_contradictions_105 ?_
      refine ev_aload_n (k0 := 0) rfl d_R_contradictions_106 ?_
      refine ev_iload (i := 4) rfl d_R_contradictions_107 ?_
      obtain ⟨r7, hr7, h⟩ := bind_some9 h
      refine Ev.z9 ?_
      refine cv_V (d := d + 1) (mc1 := 0) (ms1 := 0) (mc := mc) (ms := ms) [.inl (.int x4)] hG v_13 rfl lk_ProphecyShopModel_91 (w_R_refund (d + 0) hG hr7) rfl rfl d_R_contradictions_109 (aft_ro ?_)
      refine Ev.at (pc' := 112) rfl (Ev.cong (st' := [.inl (.int r7), .inl (.int x2)]) ?_ rfl rfl)
      refine ev_iadd d_R_contradictions_112 ?_
      obtain ⟨v8, e_v8, h⟩ := nm_some h
      refine cw_istoreN_n 2 v8 e_v8 [some (.inr (0, off 13 0)), some (.inl (.int x1)), some (.inl (.int v8)), some (.inl (.int x3)), some (.inl (.int x4))] d_R_contradictions_113 rfl rfl rfl ?_
      obtain rfl := Option.some.inj h
      exact K_q3
set_option maxRecDepth 100000 in
set_option maxHeartbeats 4000000 in
theorem w_R_contradictions {g : GL} {F G : RG} {nx : Nat} (d : Nat)  {μ : Mem}   {o : Int32 × Mem} (hG : LM vr 535 547 μ F G) (h : f_R_contradictions  μ = some o) : Mt g (d + 2) m_R_contradictions [.inr (0, off 13 0)] (G, nx) 0 0 (pRW vr 535 547 (rI o.1) o.2 F nx) := by
  unfold f_R_contradictions at h
  have kE : ∀ v, o = v → pRW vr 535 547 (rI o.1) o.2 F nx = pRW vr 535 547 (rI v.1) v.2 F nx := fun v e => by rw [e]
  refine Mt.of9 [some (.inr (0, off 13 0)), none, none, none, none] (by decide +kernel) rfl rfl rfl rfl ?_
  refine ev_aload_n (k0 := 0) rfl d_R_contradictions_0 ?_
  refine cw_iconst 0 d_R_contradictions_1 rfl ?_
  obtain ⟨μ1, e_μ1, h⟩ := nm_some h
  refine cv_put (.inl (.int 0)) 0 hG okR v_13 fl_ProphecyShopModel_73_13 rfl rfl okv_int d_R_contradictions_2 ?_
  intro G hG; rw [← e_μ1] at hG
  refine ev_aload_n (k0 := 0) rfl d_R_contradictions_5 ?_
  refine cv_get9 (.inr (0, off 40 0)) hG v_13 fg_ProphecyShopModel_7_13 rfl rfl d_R_contradictions_6 ?_
  refine cw_iconst 0 d_R_contradictions_9 rfl ?_
  obtain ⟨b2, h⟩ := chk_some h
  refine cv_iald hG v_40 rfl rfl b2 rfl d_R_contradictions_10 ?_
  obtain ⟨v3, e_v3, h⟩ := nm_some h
  refine cw_istoreN_n 1 v3 e_v3 [some (.inr (0, off 13 0)), some (.inl (.int v3)), none, none, none] d_R_contradictions_11 rfl rfl rfl ?_
  refine cw_iconst 0 d_R_contradictions_12 rfl ?_
  refine cw_istoreN_n 2 0 rfl [some (.inr (0, off 13 0)), some (.inl (.int v3)), some (.inl (.int 0)), none, none] d_R_contradictions_13 rfl rfl rfl ?_
  refine cw_iconst 0 d_R_contradictions_14 rfl ?_
  refine Ev.at (pc' := 15) rfl ?_
  refine cw_istoreN_n 3 0 rfl [some (.inr (0, off 13 0)), some (.inl (.int v3)), some (.inl (.int 0)), some (.inl (.int 0)), none] d_R_contradictions_15 rfl rfl rfl ?_
  refine cw_iconst 0 d_R_contradictions_16 rfl ?_
  refine cw_istoreN 4 0 rfl [some (.inr (0, off 13 0)), some (.inl (.int v3)), some (.inl (.int 0)), some (.inl (.int 0)), some (.inl (.int 0))] d_R_contradictions_17 rfl rfl rfl ?_
  obtain ⟨q4, hl, h⟩ := bind_some9 h
  refine it_ev (W := fun (s : Int32 × Int32) => Ev g (d + 2) m_R_contradictions 19 [some (.inr (0, off 13 0)), some (.inl (.int s.1)), some (.inl (.int 0)), some (.inl (.int 0)), some (.inl (.int s.2))] [] (G, nx) 0 0 (pRW vr 535 547 (rI o.1) o.2 F nx)) (X := fun z => z = q4) rfl (fun s9 o9 hs kC9 kX9 => ?_) LIM _ hl
  refine ws_R_contradictions_19 d  hG hs kC9 (fun r_ e => ?_)
  · obtain rfl := (kX9 _ e).symm
    refine cw_iconst 0 d_R_contradictions_47 rfl ?_
    refine cw_istoreN 4 0 rfl [some (.inr (0, off 13 0)), some (.inl (.int q4)), some (.inl (.int 0)), some (.inl (.int 0)), some (.inl (.int 0))] d_R_contradictions_48 rfl rfl rfl ?_
    obtain ⟨q5, hl, h⟩ := bind_some9 h
    refine it_ev (W := fun (s : Int32 × Int32) => Ev g (d + 2) m_R_contradictions 50 [some (.inr (0, off 13 0)), some (.inl (.int s.1)), some (.inl (.int 0)), some (.inl (.int 0)), some (.inl (.int s.2))] [] (G, nx) 0 0 (pRW vr 535 547 (rI o.1) o.2 F nx)) (X := fun z => z = q5) rfl (fun s9 o9 hs kC9 kX9 => ?_) LIM _ hl
    refine ws_R_contradictions_50 d  hG hs kC9 (fun r_ e => ?_)
    · obtain rfl := (kX9 _ e).symm
      refine cw_iconst 0 d_R_contradictions_78 rfl ?_
      refine cw_istoreN 4 0 rfl [some (.inr (0, off 13 0)), some (.inl (.int q5)), some (.inl (.int 0)), some (.inl (.int 0)), some (.inl (.int 0))] d_R_contradictions_79 rfl rfl rfl ?_
      obtain ⟨q6, hl, h⟩ := bind_some9 h
      refine it_ev (W := fun (s : Int32 × Int32 × Int32) => Ev g (d + 2) m_R_contradictions 81 [some (.inr (0, off 13 0)), some (.inl (.int q5)), some (.inl (.int s.1)), some (.inl (.int s.2.1)), some (.inl (.int s.2.2))] [] (G, nx) 0 0 (pRW vr 535 547 (rI o.1) o.2 F nx)) (X := fun z => z = q6) rfl (fun s9 o9 hs kC9 kX9 => ?_) LIM _ hl
      refine ws_R_contradictions_81 d  hG hs kC9 (fun r_ e => ?_)
      · obtain rfl := (kX9 _ e).symm
        refine ev_iload_n (k0 := 3) rfl d_R_contradictions_150 ?_
        refine ev_aload_n (k0 := 0) rfl d_R_contradictions_151 ?_
        refine cv_get9 (.inr (0, off 40 0)) hG v_13 fg_ProphecyShopModel_7_13 rfl rfl d_R_contradictions_152 ?_
        refine cw_bipush 15 d_R_contradictions_155 rfl ?_
        obtain ⟨b7, h⟩ := chk_some h
        refine cv_iald hG v_40 rfl rfl b7 rfl d_R_contradictions_157 ?_
        refine ev_iload_n (k0 := 1) rfl d_R_contradictions_158 ?_
        refine ev_isub d_R_contradictions_159 ?_
        refine ev_mabs (Nat.le_of_ble_eq_true rfl) ⟨wg_2258, wg_1030, wg_17, wg_1031⟩ d_R_contradictions_160 ?_
        refine ev_iadd d_R_contradictions_163 ?_
        refine ev_aload_n (k0 := 0) rfl d_R_contradictions_164 ?_
        refine cv_get9 (.inr (0, off 40 0)) hG v_13 fg_ProphecyShopModel_7_13 rfl rfl d_R_contradictions_165 ?_
        refine Ev.at (pc' := 168) rfl ?_
        refine cw_bipush 14 d_R_contradictions_168 rfl ?_
        obtain ⟨b8, h⟩ := chk_some h
        refine cv_iald hG v_40 rfl rfl b8 rfl d_R_contradictions_170 ?_
        refine ev_iload_n (k0 := 2) rfl d_R_contradictions_171 ?_
        refine ev_isub d_R_contradictions_172 ?_
        refine ev_mabs (Nat.le_of_ble_eq_true rfl) ⟨wg_2258, wg_1030, wg_17, wg_1031⟩ d_R_contradictions_173 ?_
        refine ev_iadd d_R_contradictions_176 ?_
        have hP := kE _ (Option.some.inj h).symm
        exact ev_ireturn (st := []) rfl rfl d_R_contradictions_177 (by rw [hP]; exact ⟨rfl, hG, rfl⟩)

/-- ProphecyShopModel.manyIn -/
def s_R_manyIn_4 (x1 : Int32) (x2 : Int32) (x3 : Int32) (μ : Mem) : Option ((Int32 × Int32) ⊕ (Int32)) :=
  chk (inb 10 524) (if (μ 40 0 (10 : Int32).toNatClampNeg) ≤ x3 then (some (.inr x2)) else (((f_R_of x3 7 μ)).bind (fun r2 => if r2 = x1 then (some (.inl ((x2 + 1, x3 + 1)))) else (some (.inl ((x2, x3 + 1)))))))
def f_R_manyIn (x1 : Int32) (μ : Mem) : Option (Int32) :=
  (it (fun (s : Int32 × Int32) => s_R_manyIn_4 x1 s.1 s.2 μ) LIM ((0, 0))).bind (fun q1 => some q1)
set_option maxRecDepth 100000 in
set_option maxHeartbeats 4000000 in
theorem ws_R_manyIn_4 {g : GL} {F G : RG} {nx mc ms : Nat} {Post : RO → RM → Prop} (d : Nat) {x1 : Int32} {x2 : Int32} {x3 : Int32} {μ : Mem}   {o : (Int32 × Int32) ⊕ (Int32)} (hG : LM vr 535 547 μ F G) (h : s_R_manyIn_4 x1 x2 x3 μ = some o)
    (kC : ∀ s', o = .inl s' → Ev g (d + 1) m_R_manyIn 4 [some (.inr (0, off 13 0)), some (.inl (.int x1)), some (.inl (.int s'.1)), some (.inl (.int s'.2))] [] (G, nx) mc ms Post)
    (kX : ∀ r, o = .inr r → Ev g (d + 1) m_R_manyIn 35 [none, none, some (.inl (.int r)), none] [] (G, nx) mc ms Post)
    : Ev g (d + 1) m_R_manyIn 4 [some (.inr (0, off 13 0)), some (.inl (.int x1)), some (.inl (.int x2)), some (.inl (.int x3))] [] (G, nx) mc ms Post := by
  unfold s_R_manyIn_4 at h
  refine ev_iload_n (k0 := 3) rfl d_R_manyIn_4 ?_
  refine ev_aload_n (k0 := 0) rfl d_R_manyIn_5 ?_
  refine cv_get9 (.inr (0, off 40 0)) hG v_13 fg_ProphecyShopModel_7_13 rfl rfl d_R_manyIn_6 ?_
  refine cw_bipush 10 d_R_manyIn_9 rfl ?_
  obtain ⟨b1, h⟩ := chk_some h
  refine cv_iald hG v_40 rfl rfl b1 rfl d_R_manyIn_11 ?_
  refine ev_icmp_ge (tgt := 35) (by decide) d_R_manyIn_12 (fun c => ?_) (fun c => ?_)
  · rw [if_pos c] at h
    exact Ev.sub (.n (.n (.s (.n LSb.z)))) (kX _ (Option.some.inj h).symm)
  · rw [if_neg c] at h
    refine ev_aload_n (k0 := 0) rfl d_R_manyIn_15 ?_
    refine ev_iload_n (k0 := 3) rfl d_R_manyIn_16 ?_
    refine cw_bipush 7 d_R_manyIn_17 rfl ?_
    obtain ⟨r2, hr2, h⟩ := bind_some9 h
    refine Ev.z9 ?_
    refine cv_V (d := d + 0) (mc1 := 0) (ms1 := 0) (mc := mc) (ms := ms) [.inl (.int x3), .inl (.int 7)] hG v_13 rfl lk_ProphecyShopModel_84 (w_R_of (d + 0) hG hr2) rfl rfl d_R_manyIn_19 (aft_ro ?_)
    refine Ev.at (pc' := 22) rfl (Ev.cong (st' := [.inl (.int r2)]) ?_ rfl rfl)
    refine ev_iload_n (k0 := 1) rfl d_R_manyIn_22 ?_
    refine ev_icmp_ne (tgt := 29) (by decide) d_R_manyIn_23 (fun c => ?_) (fun c => ?_)
    · rw [if_neg c] at h
      refine cw_iincN 3 1 [some (.inr (0, off 13 0)), some (.inl (.int x1)), some (.inl (.int x2)), some (.inl (.int (x3 + 1)))] d_R_manyIn_29 rfl rfl rfl rfl rfl ?_
      refine ev_goto (tgt := 4) (by decide) d_R_manyIn_32 ?_
      exact kC _ (Option.some.inj h).symm
    · rw [if_pos c] at h
      refine cw_iincN 2 1 [some (.inr (0, off 13 0)), some (.inl (.int x1)), some (.inl (.int (x2 + 1))), some (.inl (.int x3))] d_R_manyIn_26 rfl rfl rfl rfl rfl ?_
      refine cw_iincN 3 1 [some (.inr (0, off 13 0)), some (.inl (.int x1)), some (.inl (.int (x2 + 1))), some (.inl (.int (x3 + 1)))] d_R_manyIn_29 rfl rfl rfl rfl rfl ?_
      refine ev_goto (tgt := 4) (by decide) d_R_manyIn_32 ?_
      exact kC _ (Option.some.inj h).symm
set_option maxRecDepth 100000 in
set_option maxHeartbeats 4000000 in
theorem w_R_manyIn {g : GL} {F G : RG} {nx : Nat} (d : Nat) {x1 : Int32} {μ : Mem}   {o : Int32} (hG : LM vr 535 547 μ F G) (h : f_R_manyIn x1 μ = some o) : Mt g (d + 1) m_R_manyIn [.inr (0, off 13 0), .inl (.int x1)] (G, nx) 0 0 (pRO (rI o) (G, nx)) := by
  unfold f_R_manyIn at h
  have kE : ∀ v, o = v → pRO (rI o) (G, nx) = pRO (rI v) (G, nx) := fun v e => by rw [e]
  refine Mt.of9 [some (.inr (0, off 13 0)), some (.inl (.int x1)), none, none] (by decide +kernel) rfl rfl rfl rfl ?_
  refine cw_iconst 0 d_R_manyIn_0 rfl ?_
  refine cw_istoreN_n 2 0 rfl [some (.inr (0, off 13 0)), some (.inl (.int x1)), some (.inl (.int 0)), none] d_R_manyIn_1 rfl rfl rfl ?_
  refine cw_iconst 0 d_R_manyIn_2 rfl ?_
  refine cw_istoreN_n 3 0 rfl [some (.inr (0, off 13 0)), some (.inl (.int x1)), some (.inl (.int 0)), some (.inl (.int 0))] d_R_manyIn_3 rfl rfl rfl ?_
  obtain ⟨q1, hl, h⟩ := bind_some9 h
  refine it_ev (W := fun (s : Int32 × Int32) => Ev g (d + 1) m_R_manyIn 4 [some (.inr (0, off 13 0)), some (.inl (.int x1)), some (.inl (.int s.1)), some (.inl (.int s.2))] [] (G, nx) 0 0 (pRO (rI o) (G, nx))) (X := fun z => z = q1) rfl (fun s9 o9 hs kC9 kX9 => ?_) LIM _ hl
  refine ws_R_manyIn_4 d  hG hs kC9 (fun r_ e => ?_)
  · obtain rfl := (kX9 _ e).symm
    refine ev_iload_n (k0 := 2) rfl d_R_manyIn_35 ?_
    have hP := kE _ (Option.some.inj h).symm
    exact ev_ireturn (st := []) rfl rfl d_R_manyIn_36 (by rw [hP]; exact ⟨rfl, rfl⟩)

/-- ProphecyShopModel.countIn -/
def f_R_countIn (x1 : Int32) (μ : Mem) : Option (Int32 × Mem) :=
  nm (st3 μ 13 0 7 0) (fun μ1 => ((f_R_in x1 0 3 μ1)).bind (fun r2 => ((f_R_right r2 1 μ1)).bind (fun r3 => if r3.1 = 0 then (some ((0, r3.2))) else (((f_R_manyIn x1 r3.2)).bind (fun r4 => some ((r4, r3.2)))))))
set_option maxRecDepth 100000 in
set_option maxHeartbeats 4000000 in
theorem w_R_countIn {g : GL} {F G : RG} {nx : Nat} (d : Nat) {x1 : Int32} {μ : Mem}   {o : Int32 × Mem} (hG : LM vr 535 547 μ F G) (h : f_R_countIn x1 μ = some o) : Mt g (d + 2) m_R_countIn [.inr (0, off 13 0), .inl (.int x1)] (G, nx) 0 0 (pRW vr 535 547 (rI o.1) o.2 F nx) := by
  unfold f_R_countIn at h
  have kE : ∀ v, o = v → pRW vr 535 547 (rI o.1) o.2 F nx = pRW vr 535 547 (rI v.1) v.2 F nx := fun v e => by rw [e]
  refine Mt.of9 [some (.inr (0, off 13 0)), some (.inl (.int x1))] (by decide +kernel) rfl rfl rfl rfl ?_
  refine ev_aload_n (k0 := 0) rfl d_R_countIn_0 ?_
  refine cw_iconst 0 d_R_countIn_1 rfl ?_
  obtain ⟨μ1, e_μ1, h⟩ := nm_some h
  refine cv_put (.inl (.int 0)) 0 hG okR v_13 fl_ProphecyShopModel_73_13 rfl rfl okv_int d_R_countIn_2 ?_
  intro G hG; rw [← e_μ1] at hG
  refine ev_aload_n (k0 := 0) rfl d_R_countIn_5 ?_
  refine ev_iload_n (k0 := 1) rfl d_R_countIn_6 ?_
  refine cw_iconst 0 d_R_countIn_7 rfl ?_
  refine cw_iconst 3 d_R_countIn_8 rfl ?_
  obtain ⟨r2, hr2, h⟩ := bind_some9 h
  refine cw_S (d := d + 1) (mc1 := 0) (ms1 := 0) (mc := 0) (ms := 0) [.inl (.int x1), .inl (.int 0), .inl (.int 3)] lk_ProphecyShopModel_76 (w_R_in (d + 1) hG hr2) rfl rfl d_R_countIn_9 (aft_ro ?_)
  refine Ev.at (pc' := 12) rfl (Ev.cong (st' := [.inl (.int r2), .inr (0, off 13 0)]) ?_ rfl rfl)
  refine cw_iconst 1 d_R_countIn_12 rfl ?_
  obtain ⟨r3, hr3, h⟩ := bind_some9 h
  refine cv_V (d := d + 1) (mc1 := 0) (ms1 := 0) (mc := 0) (ms := 0) [.inl (.int r2), .inl (.int 1)] hG v_13 rfl lk_ProphecyShopModel_128 (w_R_right (d + 1) hG hr3) rfl rfl d_R_countIn_13 (aft_rw (fun G hG => ?_))
  refine Ev.at (pc' := 16) rfl (Ev.cong (st' := [.inl (.int r3.1)]) ?_ rfl rfl)
  refine ev_if_eq (tgt := 27) (by decide) d_R_countIn_16 (fun c => ?_) (fun c => ?_)
  · rw [if_pos c] at h
    refine cw_iconst 0 d_R_countIn_27 rfl ?_
    have hP := kE _ (Option.some.inj h).symm
    exact ev_ireturn (st := []) rfl rfl d_R_countIn_28 (by rw [hP]; exact ⟨rfl, hG, rfl⟩)
  · rw [if_neg c] at h
    refine ev_aload_n (k0 := 0) rfl d_R_countIn_19 ?_
    refine ev_iload_n (k0 := 1) rfl d_R_countIn_20 ?_
    obtain ⟨r4, hr4, h⟩ := bind_some9 h
    refine cv_V (d := d + 1) (mc1 := 0) (ms1 := 0) (mc := 0) (ms := 0) [.inl (.int x1)] hG v_13 rfl lk_ProphecyShopModel_358 (w_R_manyIn (d + 0) hG hr4) rfl rfl d_R_countIn_21 (aft_ro ?_)
    refine Ev.at (pc' := 24) rfl (Ev.cong (st' := [.inl (.int r4)]) ?_ rfl rfl)
    refine ev_goto (tgt := 28) (by decide) d_R_countIn_24 ?_
    have hP := kE _ (Option.some.inj h).symm
    exact ev_ireturn (st := []) rfl rfl d_R_countIn_28 (by rw [hP]; exact ⟨rfl, hG, rfl⟩)

/-- ProphecyShopModel.customerCount -/
def f_R_customerCount  (μ : Mem) : Option (Int32 × Mem) :=
  ((f_R_tells 8 μ)).bind (fun r1 => some ((r1.1, r1.2)))
set_option maxRecDepth 100000 in
set_option maxHeartbeats 4000000 in
theorem w_R_customerCount {g : GL} {F G : RG} {nx : Nat} (d : Nat)  {μ : Mem}   {o : Int32 × Mem} (hG : LM vr 535 547 μ F G) (h : f_R_customerCount  μ = some o) : Mt g (d + 1) m_R_customerCount [.inr (0, off 13 0)] (G, nx) 0 0 (pRW vr 535 547 (rI o.1) o.2 F nx) := by
  unfold f_R_customerCount at h
  have kE : ∀ v, o = v → pRW vr 535 547 (rI o.1) o.2 F nx = pRW vr 535 547 (rI v.1) v.2 F nx := fun v e => by rw [e]
  refine Mt.of9 [some (.inr (0, off 13 0))] (by decide +kernel) rfl rfl rfl rfl ?_
  refine ev_aload_n (k0 := 0) rfl d_R_customerCount_0 ?_
  refine cw_bipush 8 d_R_customerCount_1 rfl ?_
  obtain ⟨r1, hr1, h⟩ := bind_some9 h
  refine cv_V (d := d + 0) (mc1 := 0) (ms1 := 0) (mc := 0) (ms := 0) [.inl (.int 8)] hG v_13 rfl lk_ProphecyShopModel_324 (w_R_tells (d + 0) hG hr1) rfl rfl d_R_customerCount_3 (aft_rw (fun G hG => ?_))
  refine Ev.at (pc' := 6) rfl (Ev.cong (st' := [.inl (.int r1.1)]) ?_ rfl rfl)
  have hP := kE _ (Option.some.inj h).symm
  exact ev_ireturn (st := []) rfl rfl d_R_customerCount_6 (by rw [hP]; exact ⟨rfl, hG, rfl⟩)

/-- ProphecyShopModel.named -/
def s_R_named_3 (x1 : Int32) (x2 : Int32) (x3 : Int32) (x4 : Int32) (x5 : Int32) (μ : Mem) : Option ((Int32) ⊕ ((Unit) ⊕ (Int32))) :=
  if x4 ≤ x5 then (some (.inr (.inl (())))) else (chk (inb ((x2 + (x3 * x5)) + 0) 524) (if (μ 40 0 ((x2 + (x3 * x5)) + 0).toNatClampNeg) = x1 then (some (.inr (.inr x5))) else (some (.inl (x5 + 1)))))
def f_R_named (x1 : Int32) (x2 : Int32) (x3 : Int32) (x4 : Int32) (μ : Mem) : Option (Int32) :=
  (it (fun (s : Int32) => s_R_named_3 x1 x2 x3 x4 s μ) LIM 0).bind (fun q1 => els q1 (fun r2 => some ((-1))) (fun v => some v))
set_option maxRecDepth 100000 in
set_option maxHeartbeats 4000000 in
theorem ws_R_named_3 {g : GL} {F G : RG} {nx mc ms : Nat} {Post : RO → RM → Prop} (d : Nat) {x1 : Int32} {x2 : Int32} {x3 : Int32} {x4 : Int32} {x5 : Int32} {μ : Mem}   {o : (Int32) ⊕ ((Unit) ⊕ (Int32))} (hG : LM vr 535 547 μ F G) (h : s_R_named_3 x1 x2 x3 x4 x5 μ = some o)
    (kC : ∀ s', o = .inl s' → Ev g (d + 0) m_R_named 3 [some (.inr (0, off 13 0)), some (.inl (.int x1)), some (.inl (.int x2)), some (.inl (.int x3)), some (.inl (.int x4)), some (.inl (.int s'))] [] (G, nx) mc ms Post)
    (kX : ∀ r, o = .inr (.inl r) → Ev g (d + 0) m_R_named 36 [none, none, none, none, none, none] [] (G, nx) mc ms Post)
    (kE : ∀ v, o = .inr (.inr v) → Post = pRO (rI v) (G, nx)) : Ev g (d + 0) m_R_named 3 [some (.inr (0, off 13 0)), some (.inl (.int x1)), some (.inl (.int x2)), some (.inl (.int x3)), some (.inl (.int x4)), some (.inl (.int x5))] [] (G, nx) mc ms Post := by
  unfold s_R_named_3 at h
  refine ev_iload (i := 5) rfl d_R_named_3 ?_
  refine ev_iload (i := 4) rfl d_R_named_5 ?_
  refine ev_icmp_ge (tgt := 36) (by decide) d_R_named_7 (fun c => ?_) (fun c => ?_)
  · rw [if_pos c] at h
    exact Ev.sub (.n (.n (.n (.n (.n (.n LSb.z)))))) (kX _ (Option.some.inj h).symm)
  · rw [if_neg c] at h
    refine ev_aload_n (k0 := 0) rfl d_R_named_10 ?_
    refine cv_get9 (.inr (0, off 40 0)) hG v_13 fg_ProphecyShopModel_7_13 rfl rfl d_R_named_11 ?_
    refine ev_iload_n (k0 := 2) rfl d_R_named_14 ?_
    refine ev_iload_n (k0 := 3) rfl d_R_named_15 ?_
    refine ev_iload (i := 5) rfl d_R_named_16 ?_
    refine ev_imul d_R_named_18 ?_
    refine ev_iadd d_R_named_19 ?_
    refine cw_iconst 0 d_R_named_20 rfl ?_
    refine ev_iadd d_R_named_21 ?_
    obtain ⟨b1, h⟩ := chk_some h
    refine cv_iald hG v_40 rfl rfl b1 rfl d_R_named_22 ?_
    refine ev_iload_n (k0 := 1) rfl d_R_named_23 ?_
    refine Ev.at (pc' := 24) rfl ?_
    refine ev_icmp_ne (tgt := 30) (by decide) d_R_named_24 (fun c => ?_) (fun c => ?_)
    · rw [if_neg c] at h
      refine cw_iincN 5 1 [some (.inr (0, off 13 0)), some (.inl (.int x1)), some (.inl (.int x2)), some (.inl (.int x3)), some (.inl (.int x4)), some (.inl (.int (x5 + 1)))] d_R_named_30 rfl rfl rfl rfl rfl ?_
      refine ev_goto (tgt := 3) (by decide) d_R_named_33 ?_
      exact kC _ (Option.some.inj h).symm
    · rw [if_pos c] at h
      refine ev_iload (i := 5) rfl d_R_named_27 ?_
      have hP := kE _ (Option.some.inj h).symm
      exact ev_ireturn (st := []) rfl rfl d_R_named_29 (by rw [hP]; exact ⟨rfl, rfl⟩)
set_option maxRecDepth 100000 in
set_option maxHeartbeats 4000000 in
theorem w_R_named {g : GL} {F G : RG} {nx : Nat} (d : Nat) {x1 : Int32} {x2 : Int32} {x3 : Int32} {x4 : Int32} {μ : Mem}   {o : Int32} (hG : LM vr 535 547 μ F G) (h : f_R_named x1 x2 x3 x4 μ = some o) : Mt g (d + 0) m_R_named [.inr (0, off 13 0), .inl (.int x1), .inl (.int x2), .inl (.int x3), .inl (.int x4)] (G, nx) 0 0 (pRO (rI o) (G, nx)) := by
  unfold f_R_named at h
  have kE : ∀ v, o = v → pRO (rI o) (G, nx) = pRO (rI v) (G, nx) := fun v e => by rw [e]
  refine Mt.of9 [some (.inr (0, off 13 0)), some (.inl (.int x1)), some (.inl (.int x2)), some (.inl (.int x3)), some (.inl (.int x4)), none] (by decide +kernel) rfl rfl rfl rfl ?_
  refine cw_iconst 0 d_R_named_0 rfl ?_
  refine cw_istoreN 5 0 rfl [some (.inr (0, off 13 0)), some (.inl (.int x1)), some (.inl (.int x2)), some (.inl (.int x3)), some (.inl (.int x4)), some (.inl (.int 0))] d_R_named_1 rfl rfl rfl ?_
  obtain ⟨q1, hl, h⟩ := bind_some9 h
  refine it_ev (W := fun (s : Int32) => Ev g (d + 0) m_R_named 3 [some (.inr (0, off 13 0)), some (.inl (.int x1)), some (.inl (.int x2)), some (.inl (.int x3)), some (.inl (.int x4)), some (.inl (.int s))] [] (G, nx) 0 0 (pRO (rI o) (G, nx))) (X := fun z => z = q1) rfl (fun s9 o9 hs kC9 kX9 => ?_) LIM _ hl
  refine ws_R_named_3 d  hG hs kC9 (fun r2 e => ?_) (fun v e => ?_)
  · obtain rfl := kX9 _ e
    rw [els_l] at h
    refine cw_iconst (-1) d_R_named_36 rfl ?_
    have hP := kE _ (Option.some.inj h).symm
    exact ev_ireturn (st := []) rfl rfl d_R_named_37 (by rw [hP]; exact ⟨rfl, rfl⟩)
  · obtain rfl := kX9 _ e
    rw [els_r] at h
    exact kE _ (Option.some.inj h).symm

/-- ProphecyShopModel.customerNamed -/
def f_R_customerNamed (x1 : Int32) (μ : Mem) : Option (Int32) :=
  chk (inb 8 524) (((f_R_named x1 28 3 (μ 40 0 (8 : Int32).toNatClampNeg) μ)).bind (fun r2 => some r2))
set_option maxRecDepth 100000 in
set_option maxHeartbeats 4000000 in
theorem w_R_customerNamed {g : GL} {F G : RG} {nx : Nat} (d : Nat) {x1 : Int32} {μ : Mem}   {o : Int32} (hG : LM vr 535 547 μ F G) (h : f_R_customerNamed x1 μ = some o) : Mt g (d + 1) m_R_customerNamed [.inr (0, off 13 0), .inl (.int x1)] (G, nx) 0 0 (pRO (rI o) (G, nx)) := by
  unfold f_R_customerNamed at h
  have kE : ∀ v, o = v → pRO (rI o) (G, nx) = pRO (rI v) (G, nx) := fun v e => by rw [e]
  refine Mt.of9 [some (.inr (0, off 13 0)), some (.inl (.int x1))] (by decide +kernel) rfl rfl rfl rfl ?_
  refine ev_aload_n (k0 := 0) rfl d_R_customerNamed_0 ?_
  refine ev_iload_n (k0 := 1) rfl d_R_customerNamed_1 ?_
  refine cw_bipush 28 d_R_customerNamed_2 rfl ?_
  refine cw_iconst 3 d_R_customerNamed_4 rfl ?_
  refine ev_aload_n (k0 := 0) rfl d_R_customerNamed_5 ?_
  refine cv_get9 (.inr (0, off 40 0)) hG v_13 fg_ProphecyShopModel_7_13 rfl rfl d_R_customerNamed_6 ?_
  refine cw_bipush 8 d_R_customerNamed_9 rfl ?_
  obtain ⟨b1, h⟩ := chk_some h
  refine cv_iald hG v_40 rfl rfl b1 rfl d_R_customerNamed_11 ?_
  obtain ⟨r2, hr2, h⟩ := bind_some9 h
  refine cv_V (d := d + 0) (mc1 := 0) (ms1 := 0) (mc := 0) (ms := 0) [.inl (.int x1), .inl (.int 28), .inl (.int 3), .inl (.int (μ 40 0 (8 : Int32).toNatClampNeg))] hG v_13 rfl lk_ProphecyShopModel_178 (w_R_named (d + 0) hG hr2) rfl rfl d_R_customerNamed_12 (aft_ro ?_)
  refine Ev.at (pc' := 15) rfl (Ev.cong (st' := [.inl (.int r2)]) ?_ rfl rfl)
  have hP := kE _ (Option.some.inj h).symm
  exact ev_ireturn (st := []) rfl rfl d_R_customerNamed_15 (by rw [hP]; exact ⟨rfl, rfl⟩)

/-- ProphecyShopModel.customerOf -/
def f_R_customerOf (x1 : Int32) (μ : Mem) : Option (Int32 × Mem) :=
  ((f_R_asked x1 0 μ)).bind (fun r1 => some ((r1.1, r1.2)))
set_option maxRecDepth 100000 in
set_option maxHeartbeats 4000000 in
theorem w_R_customerOf {g : GL} {F G : RG} {nx : Nat} (d : Nat) {x1 : Int32} {μ : Mem}   {o : Int32 × Mem} (hG : LM vr 535 547 μ F G) (h : f_R_customerOf x1 μ = some o) : Mt g (d + 3) m_R_customerOf [.inr (0, off 13 0), .inl (.int x1)] (G, nx) 0 0 (pRW vr 535 547 (rI o.1) o.2 F nx) := by
  unfold f_R_customerOf at h
  have kE : ∀ v, o = v → pRW vr 535 547 (rI o.1) o.2 F nx = pRW vr 535 547 (rI v.1) v.2 F nx := fun v e => by rw [e]
  refine Mt.of9 [some (.inr (0, off 13 0)), some (.inl (.int x1))] (by decide +kernel) rfl rfl rfl rfl ?_
  refine ev_aload_n (k0 := 0) rfl d_R_customerOf_0 ?_
  refine ev_iload_n (k0 := 1) rfl d_R_customerOf_1 ?_
  refine cw_iconst 0 d_R_customerOf_2 rfl ?_
  obtain ⟨r1, hr1, h⟩ := bind_some9 h
  refine cv_V (d := d + 2) (mc1 := 0) (ms1 := 0) (mc := 0) (ms := 0) [.inl (.int x1), .inl (.int 0)] hG v_13 rfl lk_ProphecyShopModel_349 (w_R_asked (d + 0) hG hr1) rfl rfl d_R_customerOf_3 (aft_rw (fun G hG => ?_))
  refine Ev.at (pc' := 6) rfl (Ev.cong (st' := [.inl (.int r1.1)]) ?_ rfl rfl)
  have hP := kE _ (Option.some.inj h).symm
  exact ev_ireturn (st := []) rfl rfl d_R_customerOf_6 (by rw [hP]; exact ⟨rfl, hG, rfl⟩)

/-- ProphecyShopModel.day -/
def f_R_day  (μ : Mem) : Option (Int32 × Mem) :=
  ((f_R_tells 5 μ)).bind (fun r1 => some ((r1.1, r1.2)))
set_option maxRecDepth 100000 in
set_option maxHeartbeats 4000000 in
theorem w_R_day {g : GL} {F G : RG} {nx : Nat} (d : Nat)  {μ : Mem}   {o : Int32 × Mem} (hG : LM vr 535 547 μ F G) (h : f_R_day  μ = some o) : Mt g (d + 1) m_R_day [.inr (0, off 13 0)] (G, nx) 0 0 (pRW vr 535 547 (rI o.1) o.2 F nx) := by
  unfold f_R_day at h
  have kE : ∀ v, o = v → pRW vr 535 547 (rI o.1) o.2 F nx = pRW vr 535 547 (rI v.1) v.2 F nx := fun v e => by rw [e]
  refine Mt.of9 [some (.inr (0, off 13 0))] (by decide +kernel) rfl rfl rfl rfl ?_
  refine ev_aload_n (k0 := 0) rfl d_R_day_0 ?_
  refine cw_iconst 5 d_R_day_1 rfl ?_
  obtain ⟨r1, hr1, h⟩ := bind_some9 h
  refine cv_V (d := d + 0) (mc1 := 0) (ms1 := 0) (mc := 0) (ms := 0) [.inl (.int 5)] hG v_13 rfl lk_ProphecyShopModel_324 (w_R_tells (d + 0) hG hr1) rfl rfl d_R_day_2 (aft_rw (fun G hG => ?_))
  refine Ev.at (pc' := 5) rfl (Ev.cong (st' := [.inl (.int r1.1)]) ?_ rfl rfl)
  have hP := kE _ (Option.some.inj h).symm
  exact ev_ireturn (st := []) rfl rfl d_R_day_5 (by rw [hP]; exact ⟨rfl, hG, rfl⟩)

/-- ProphecyShopModel.daysUntilDecided -/
def f_R_daysUntilDecided (x1 : Int32) (μ : Mem) : Option (Int32 × Mem) :=
  ((f_R_asked x1 7 μ)).bind (fun r1 => if (r1.2 13 0 7) = 0 then (if r1.1 = 0 then (((f_R_of x1 5 r1.2)).bind (fun r2 => chk (inb 5 524) (some (((r2 + 1) - (r1.2 40 0 (5 : Int32).toNatClampNeg), r1.2))))) else (some ((0, r1.2)))) else (some ((0, r1.2))))
set_option maxRecDepth 100000 in
set_option maxHeartbeats 4000000 in
theorem w_R_daysUntilDecided {g : GL} {F G : RG} {nx : Nat} (d : Nat) {x1 : Int32} {μ : Mem}   {o : Int32 × Mem} (hG : LM vr 535 547 μ F G) (h : f_R_daysUntilDecided x1 μ = some o) : Mt g (d + 3) m_R_daysUntilDecided [.inr (0, off 13 0), .inl (.int x1)] (G, nx) 0 0 (pRW vr 535 547 (rI o.1) o.2 F nx) := by
  unfold f_R_daysUntilDecided at h
  have kE : ∀ v, o = v → pRW vr 535 547 (rI o.1) o.2 F nx = pRW vr 535 547 (rI v.1) v.2 F nx := fun v e => by rw [e]
  refine Mt.of9 [some (.inr (0, off 13 0)), some (.inl (.int x1)), none] (by decide +kernel) rfl rfl rfl rfl ?_
  refine ev_aload_n (k0 := 0) rfl d_R_daysUntilDecided_0 ?_
  refine ev_iload_n (k0 := 1) rfl d_R_daysUntilDecided_1 ?_
  refine cw_bipush 7 d_R_daysUntilDecided_2 rfl ?_
  obtain ⟨r1, hr1, h⟩ := bind_some9 h
  refine cv_V (d := d + 2) (mc1 := 0) (ms1 := 0) (mc := 0) (ms := 0) [.inl (.int x1), .inl (.int 7)] hG v_13 rfl lk_ProphecyShopModel_349 (w_R_asked (d + 0) hG hr1) rfl rfl d_R_daysUntilDecided_4 (aft_rw (fun G hG => ?_))
  refine Ev.at (pc' := 7) rfl (Ev.cong (st' := [.inl (.int r1.1)]) ?_ rfl rfl)
  refine cw_istoreN_n 2 r1.1 rfl [some (.inr (0, off 13 0)), some (.inl (.int x1)), some (.inl (.int r1.1))] d_R_daysUntilDecided_7 rfl rfl rfl ?_
  refine ev_aload_n (k0 := 0) rfl d_R_daysUntilDecided_8 ?_
  refine cv_get9 (.inl (.int (r1.2 13 0 7))) hG v_13 fg_ProphecyShopModel_73_13 rfl rfl d_R_daysUntilDecided_9 ?_
  refine ev_if_ne (tgt := 19) (by decide) d_R_daysUntilDecided_12 (fun c => ?_) (fun c => ?_)
  · rw [if_neg c] at h
    refine cw_iconst 0 d_R_daysUntilDecided_19 rfl ?_
    refine ev_goto (tgt := 38) (by decide) d_R_daysUntilDecided_20 ?_
    have hP := kE _ (Option.some.inj h).symm
    exact ev_ireturn (st := []) rfl rfl d_R_daysUntilDecided_38 (by rw [hP]; exact ⟨rfl, hG, rfl⟩)
  · rw [if_pos c] at h
    refine ev_iload_n (k0 := 2) rfl d_R_daysUntilDecided_15 ?_
    refine ev_if_eq (tgt := 23) (by decide) d_R_daysUntilDecided_16 (fun c => ?_) (fun c => ?_)
    · rw [if_pos c] at h
      refine ev_aload_n (k0 := 0) rfl d_R_daysUntilDecided_23 ?_
      refine ev_iload_n (k0 := 1) rfl d_R_daysUntilDecided_24 ?_
      refine cw_iconst 5 d_R_daysUntilDecided_25 rfl ?_
      obtain ⟨r2, hr2, h⟩ := bind_some9 h
      refine cv_V (d := d + 2) (mc1 := 0) (ms1 := 0) (mc := 0) (ms := 0) [.inl (.int x1), .inl (.int 5)] hG v_13 rfl lk_ProphecyShopModel_84 (w_R_of (d + 2) hG hr2) rfl rfl d_R_daysUntilDecided_26 (aft_ro ?_)
      refine Ev.at (pc' := 29) rfl (Ev.cong (st' := [.inl (.int r2)]) ?_ rfl rfl)
      refine cw_iconst 1 d_R_daysUntilDecided_29 rfl ?_
      refine ev_iadd d_R_daysUntilDecided_30 ?_
      refine ev_aload_n (k0 := 0) rfl d_R_daysUntilDecided_31 ?_
      refine cv_get9 (.inr (0, off 40 0)) hG v_13 fg_ProphecyShopModel_7_13 rfl rfl d_R_daysUntilDecided_32 ?_
      refine cw_iconst 5 d_R_daysUntilDecided_35 rfl ?_
      obtain ⟨b3, h⟩ := chk_some h
      refine cv_iald hG v_40 rfl rfl b3 rfl d_R_daysUntilDecided_36 ?_
      refine ev_isub d_R_daysUntilDecided_37 ?_
      have hP := kE _ (Option.some.inj h).symm
      exact ev_ireturn (st := []) rfl rfl d_R_daysUntilDecided_38 (by rw [hP]; exact ⟨rfl, hG, rfl⟩)
    · rw [if_neg c] at h
      refine cw_iconst 0 d_R_daysUntilDecided_19 rfl ?_
      refine ev_goto (tgt := 38) (by decide) d_R_daysUntilDecided_20 ?_
      have hP := kE _ (Option.some.inj h).symm
      exact ev_ireturn (st := []) rfl rfl d_R_daysUntilDecided_38 (by rw [hP]; exact ⟨rfl, hG, rfl⟩)

/-- ProphecyShopModel.daysUntilRefunded -/
def s_R_daysUntilRefunded_26 (x1 : Int32) (x2 : Int32) (μ : Mem) : Option ((Int32 × Mem) ⊕ ((Mem) ⊕ (Int32 × Mem))) :=
  if (300 : Int32) < x2 then (some (.inr (.inl μ))) else (((f_R_of x1 7 μ)).bind (fun r1 => if r1 = 3 then (((f_R_back x2 μ)).bind (fun r3 => some (.inr (.inr ((r3.1, r3.2)))))) else (((f_R_dayPasses μ)).bind (fun r2 => some (.inl ((x2 + 1, r2)))))))
def f_R_daysUntilRefunded (x1 : Int32) (μ : Mem) : Option (Int32 × Mem) :=
  nm (st3 μ 13 0 7 0) (fun μ1 => ((f_R_isProphecy x1 μ1)).bind (fun r2 => ((f_R_right r2 1 μ1)).bind (fun r3 => if r3.1 = 0 then (some ((0, r3.2))) else (((f_R_tries r3.2)).bind (fun r4 => (it (fun (s : Int32 × Mem) => s_R_daysUntilRefunded_26 x1 s.1 s.2) LIM ((0, r4))).bind (fun q5 => els q5 (fun r6 => ((f_R_back (-1) r6)).bind (fun r7 => some ((r7.1, r7.2)))) (fun v => some v)))))))
set_option maxRecDepth 100000 in
set_option maxHeartbeats 4000000 in
theorem ws_R_daysUntilRefunded_26 {g : GL} {F G : RG} {nx mc ms : Nat} {Post : RO → RM → Prop} (d : Nat) {x1 : Int32} {x2 : Int32} {μ : Mem}   {o : (Int32 × Mem) ⊕ ((Mem) ⊕ (Int32 × Mem))} (hG : LM vr 535 547 μ F G) (h : s_R_daysUntilRefunded_26 x1 x2 μ = some o)
    (kC : ∀ s', o = .inl s' → ∀ G, LM vr 535 547 s'.2 F G → Ev g (d + 5) m_R_daysUntilRefunded 26 [some (.inr (0, off 13 0)), some (.inl (.int x1)), some (.inl (.int s'.1))] [] (G, nx) mc ms Post)
    (kX : ∀ r, o = .inr (.inl r) → ∀ G, LM vr 535 547 r F G → Ev g (d + 5) m_R_daysUntilRefunded 60 [some (.inr (0, off 13 0)), none, none] [] (G, nx) mc ms Post)
    (kE : ∀ v, o = .inr (.inr v) → Post = pRW vr 535 547 (rI v.1) v.2 F nx) : Ev g (d + 5) m_R_daysUntilRefunded 26 [some (.inr (0, off 13 0)), some (.inl (.int x1)), some (.inl (.int x2))] [] (G, nx) mc ms Post := by
  unfold s_R_daysUntilRefunded_26 at h
  refine ev_iload_n (k0 := 2) rfl d_R_daysUntilRefunded_26 ?_
  refine cw_sipush 300 d_R_daysUntilRefunded_27 rfl ?_
  refine ev_icmp_gt (tgt := 60) (by decide) d_R_daysUntilRefunded_30 (fun c => ?_) (fun c => ?_)
  · rw [if_pos c] at h
    exact Ev.sub (.s (.n (.n LSb.z))) (kX _ (Option.some.inj h).symm G hG)
  · rw [if_neg c] at h
    refine ev_aload_n (k0 := 0) rfl d_R_daysUntilRefunded_33 ?_
    refine ev_iload_n (k0 := 1) rfl d_R_daysUntilRefunded_34 ?_
    refine cw_bipush 7 d_R_daysUntilRefunded_35 rfl ?_
    obtain ⟨r1, hr1, h⟩ := bind_some9 h
    refine Ev.z9 ?_
    refine cv_V (d := d + 4) (mc1 := 0) (ms1 := 0) (mc := mc) (ms := ms) [.inl (.int x1), .inl (.int 7)] hG v_13 rfl lk_ProphecyShopModel_84 (w_R_of (d + 4) hG hr1) rfl rfl d_R_daysUntilRefunded_37 (aft_ro ?_)
    refine Ev.at (pc' := 40) rfl (Ev.cong (st' := [.inl (.int r1)]) ?_ rfl rfl)
    refine cw_iconst 3 d_R_daysUntilRefunded_40 rfl ?_
    refine ev_icmp_ne (tgt := 50) (by decide) d_R_daysUntilRefunded_41 (fun c => ?_) (fun c => ?_)
    · rw [if_neg c] at h
      refine ev_aload_n (k0 := 0) rfl d_R_daysUntilRefunded_50 ?_
      obtain ⟨r2, hr2, h⟩ := bind_some9 h
      refine Ev.z9 ?_
      refine cv_V (d := d + 4) (mc1 := 0) (ms1 := 0) (mc := mc) (ms := ms) [] hG v_13 rfl lk_ProphecyShopModel_370 (w_R_dayPasses (d + 0) hG hr2) rfl rfl d_R_daysUntilRefunded_51 (aft_rw (fun G hG => ?_))
      refine Ev.at (pc' := 54) rfl (Ev.cong (st' := []) ?_ rfl rfl)
      refine cw_iincN 2 1 [some (.inr (0, off 13 0)), some (.inl (.int x1)), some (.inl (.int (x2 + 1)))] d_R_daysUntilRefunded_54 rfl rfl rfl rfl rfl ?_
      refine ev_goto (tgt := 26) (by decide) d_R_daysUntilRefunded_57 ?_
      exact kC _ (Option.some.inj h).symm G hG
    · rw [if_pos c] at h
      refine ev_aload_n (k0 := 0) rfl d_R_daysUntilRefunded_44 ?_
      refine ev_iload_n (k0 := 2) rfl d_R_daysUntilRefunded_45 ?_
      obtain ⟨r3, hr3, h⟩ := bind_some9 h
      refine Ev.z9 ?_
      refine cv_V (d := d + 4) (mc1 := 0) (ms1 := 0) (mc := mc) (ms := ms) [.inl (.int x2)] hG v_13 rfl lk_ProphecyShopModel_367 (w_R_back (d + 4) hG hr3) rfl rfl d_R_daysUntilRefunded_46 (aft_rw (fun G hG => ?_))
      refine Ev.at (pc' := 49) rfl (Ev.cong (st' := [.inl (.int r3.1)]) ?_ rfl rfl)
      have hP := kE _ (Option.some.inj h).symm
      exact ev_ireturn (st := []) rfl rfl d_R_daysUntilRefunded_49 (by rw [hP]; exact ⟨rfl, hG, rfl⟩)
set_option maxRecDepth 100000 in
set_option maxHeartbeats 4000000 in
theorem w_R_daysUntilRefunded {g : GL} {F G : RG} {nx : Nat} (d : Nat) {x1 : Int32} {μ : Mem}   {o : Int32 × Mem} (hG : LM vr 535 547 μ F G) (h : f_R_daysUntilRefunded x1 μ = some o) : Mt g (d + 5) m_R_daysUntilRefunded [.inr (0, off 13 0), .inl (.int x1)] (G, nx) 0 0 (pRW vr 535 547 (rI o.1) o.2 F nx) := by
  unfold f_R_daysUntilRefunded at h
  have kE : ∀ v, o = v → pRW vr 535 547 (rI o.1) o.2 F nx = pRW vr 535 547 (rI v.1) v.2 F nx := fun v e => by rw [e]
  refine Mt.of9 [some (.inr (0, off 13 0)), some (.inl (.int x1)), none] (by decide +kernel) rfl rfl rfl rfl ?_
  refine ev_aload_n (k0 := 0) rfl d_R_daysUntilRefunded_0 ?_
  refine cw_iconst 0 d_R_daysUntilRefunded_1 rfl ?_
  obtain ⟨μ1, e_μ1, h⟩ := nm_some h
  refine cv_put (.inl (.int 0)) 0 hG okR v_13 fl_ProphecyShopModel_73_13 rfl rfl okv_int d_R_daysUntilRefunded_2 ?_
  intro G hG; rw [← e_μ1] at hG
  refine ev_aload_n (k0 := 0) rfl d_R_daysUntilRefunded_5 ?_
  refine ev_aload_n (k0 := 0) rfl d_R_daysUntilRefunded_6 ?_
  refine ev_iload_n (k0 := 1) rfl d_R_daysUntilRefunded_7 ?_
  obtain ⟨r2, hr2, h⟩ := bind_some9 h
  refine cv_V (d := d + 4) (mc1 := 0) (ms1 := 0) (mc := 0) (ms := 0) [.inl (.int x1)] hG v_13 rfl lk_ProphecyShopModel_346 (w_R_isProphecy (d + 3) hG hr2) rfl rfl d_R_daysUntilRefunded_8 (aft_ro ?_)
  refine Ev.at (pc' := 11) rfl (Ev.cong (st' := [.inl (.int r2), .inr (0, off 13 0)]) ?_ rfl rfl)
  refine cw_iconst 1 d_R_daysUntilRefunded_11 rfl ?_
  obtain ⟨r3, hr3, h⟩ := bind_some9 h
  refine cv_V (d := d + 4) (mc1 := 0) (ms1 := 0) (mc := 0) (ms := 0) [.inl (.int r2), .inl (.int 1)] hG v_13 rfl lk_ProphecyShopModel_128 (w_R_right (d + 4) hG hr3) rfl rfl d_R_daysUntilRefunded_12 (aft_rw (fun G hG => ?_))
  refine Ev.at (pc' := 15) rfl (Ev.cong (st' := [.inl (.int r3.1)]) ?_ rfl rfl)
  refine ev_if_ne (tgt := 20) (by decide) d_R_daysUntilRefunded_15 (fun c => ?_) (fun c => ?_)
  · rw [if_neg c] at h
    refine ev_aload_n (k0 := 0) rfl d_R_daysUntilRefunded_20 ?_
    obtain ⟨r4, hr4, h⟩ := bind_some9 h
    refine cv_V (d := d + 4) (mc1 := 0) (ms1 := 0) (mc := 0) (ms := 0) [] hG v_13 rfl lk_ProphecyShopModel_364 (w_R_tries (d + 4) hG hr4) rfl rfl d_R_daysUntilRefunded_21 (aft_rw (fun G hG => ?_))
    refine Ev.at (pc' := 24) rfl (Ev.cong (st' := []) ?_ rfl rfl)
    refine cw_iconst 0 d_R_daysUntilRefunded_24 rfl ?_
    refine cw_istoreN_n 2 0 rfl [some (.inr (0, off 13 0)), some (.inl (.int x1)), some (.inl (.int 0))] d_R_daysUntilRefunded_25 rfl rfl rfl ?_
    obtain ⟨q5, hl, h⟩ := bind_some9 h
    refine it_ev (W := fun (s : Int32 × Mem) => ∀ G, LM vr 535 547 s.2 F G → Ev g (d + 5) m_R_daysUntilRefunded 26 [some (.inr (0, off 13 0)), some (.inl (.int x1)), some (.inl (.int s.1))] [] (G, nx) 0 0 (pRW vr 535 547 (rI o.1) o.2 F nx)) (X := fun z => z = q5) rfl (fun s9 o9 hs kC9 kX9 => ?_) LIM _ hl G hG
    intro G hG
    refine ws_R_daysUntilRefunded_26 d  hG hs kC9 (fun r6 e G hG => ?_) (fun v e => ?_)
    · obtain rfl := kX9 _ e
      rw [els_l] at h
      refine ev_aload_n (k0 := 0) rfl d_R_daysUntilRefunded_60 ?_
      refine cw_iconst (-1) d_R_daysUntilRefunded_61 rfl ?_
      obtain ⟨r7, hr7, h⟩ := bind_some9 h
      refine cv_V (d := d + 4) (mc1 := 0) (ms1 := 0) (mc := 0) (ms := 0) [.inl (.int ((-1)))] hG v_13 rfl lk_ProphecyShopModel_367 (w_R_back (d + 4) hG hr7) rfl rfl d_R_daysUntilRefunded_62 (aft_rw (fun G hG => ?_))
      refine Ev.at (pc' := 65) rfl (Ev.cong (st' := [.inl (.int r7.1)]) ?_ rfl rfl)
      have hP := kE _ (Option.some.inj h).symm
      exact ev_ireturn (st := []) rfl rfl d_R_daysUntilRefunded_65 (by rw [hP]; exact ⟨rfl, hG, rfl⟩)
    · obtain rfl := kX9 _ e
      rw [els_r] at h
      exact kE _ (Option.some.inj h).symm
  · rw [if_pos c] at h
    refine cw_iconst 0 d_R_daysUntilRefunded_18 rfl ?_
    have hP := kE _ (Option.some.inj h).symm
    exact ev_ireturn (st := []) rfl rfl d_R_daysUntilRefunded_19 (by rw [hP]; exact ⟨rfl, hG, rfl⟩)

/-- ProphecyShopModel.decidedOn -/
def f_R_decidedOn (x1 : Int32) (μ : Mem) : Option (Int32 × Mem) :=
  ((f_R_asked x1 7 μ)).bind (fun r1 => ((if r1.1 = 0 then (some (0)) else (some (1)) : Option (Int32))).bind (fun q2 => ((f_R_right q2 2 r1.2)).bind (fun r3 => if r3.1 = 0 then (some ((0, r3.2))) else (((f_R_of x1 8 r3.2)).bind (fun r4 => some ((r4, r3.2)))))))
set_option maxRecDepth 100000 in
set_option maxHeartbeats 4000000 in
theorem w_R_decidedOn {g : GL} {F G : RG} {nx : Nat} (d : Nat) {x1 : Int32} {μ : Mem}   {o : Int32 × Mem} (hG : LM vr 535 547 μ F G) (h : f_R_decidedOn x1 μ = some o) : Mt g (d + 3) m_R_decidedOn [.inr (0, off 13 0), .inl (.int x1)] (G, nx) 0 0 (pRW vr 535 547 (rI o.1) o.2 F nx) := by
  unfold f_R_decidedOn at h
  have kE : ∀ v, o = v → pRW vr 535 547 (rI o.1) o.2 F nx = pRW vr 535 547 (rI v.1) v.2 F nx := fun v e => by rw [e]
  refine Mt.of9 [some (.inr (0, off 13 0)), some (.inl (.int x1)), none] (by decide +kernel) rfl rfl rfl rfl ?_
  refine ev_aload_n (k0 := 0) rfl d_R_decidedOn_0 ?_
  refine ev_iload_n (k0 := 1) rfl d_R_decidedOn_1 ?_
  refine cw_bipush 7 d_R_decidedOn_2 rfl ?_
  obtain ⟨r1, hr1, h⟩ := bind_some9 h
  refine cv_V (d := d + 2) (mc1 := 0) (ms1 := 0) (mc := 0) (ms := 0) [.inl (.int x1), .inl (.int 7)] hG v_13 rfl lk_ProphecyShopModel_349 (w_R_asked (d + 0) hG hr1) rfl rfl d_R_decidedOn_4 (aft_rw (fun G hG => ?_))
  refine Ev.at (pc' := 7) rfl (Ev.cong (st' := [.inl (.int r1.1)]) ?_ rfl rfl)
  refine cw_istoreN_n 2 r1.1 rfl [some (.inr (0, off 13 0)), some (.inl (.int x1)), some (.inl (.int r1.1))] d_R_decidedOn_7 rfl rfl rfl ?_
  refine ev_aload_n (k0 := 0) rfl d_R_decidedOn_8 ?_
  refine ev_iload_n (k0 := 2) rfl d_R_decidedOn_9 ?_
  obtain ⟨q2, hj, h⟩ := bind_some9 h
  have K_q2 : Ev g (d + 3) m_R_decidedOn 18 [some (.inr (0, off 13 0)), some (.inl (.int x1)), none] [.inl (.int q2), .inr (0, off 13 0)] (G, nx) 0 0 (pRW vr 535 547 (rI o.1) o.2 F nx) := by
    refine cw_iconst 2 d_R_decidedOn_18 rfl ?_
    obtain ⟨r3, hr3, h⟩ := bind_some9 h
    refine cv_V (d := d + 2) (mc1 := 0) (ms1 := 0) (mc := 0) (ms := 0) [.inl (.int q2), .inl (.int 2)] hG v_13 rfl lk_ProphecyShopModel_128 (w_R_right (d + 2) hG hr3) rfl rfl d_R_decidedOn_19 (aft_rw (fun G hG => ?_))
    refine Ev.at (pc' := 22) rfl (Ev.cong (st' := [.inl (.int r3.1)]) ?_ rfl rfl)
    refine ev_if_eq (tgt := 35) (by decide) d_R_decidedOn_22 (fun c => ?_) (fun c => ?_)
    · rw [if_pos c] at h
      refine cw_iconst 0 d_R_decidedOn_35 rfl ?_
      have hP := kE _ (Option.some.inj h).symm
      exact ev_ireturn (st := []) rfl rfl d_R_decidedOn_36 (by rw [hP]; exact ⟨rfl, hG, rfl⟩)
    · rw [if_neg c] at h
      refine ev_aload_n (k0 := 0) rfl d_R_decidedOn_25 ?_
      refine ev_iload_n (k0 := 1) rfl d_R_decidedOn_26 ?_
      refine cw_bipush 8 d_R_decidedOn_27 rfl ?_
      obtain ⟨r4, hr4, h⟩ := bind_some9 h
      refine cv_V (d := d + 2) (mc1 := 0) (ms1 := 0) (mc := 0) (ms := 0) [.inl (.int x1), .inl (.int 8)] hG v_13 rfl lk_ProphecyShopModel_84 (w_R_of (d + 2) hG hr4) rfl rfl d_R_decidedOn_29 (aft_ro ?_)
      refine Ev.at (pc' := 32) rfl (Ev.cong (st' := [.inl (.int r4)]) ?_ rfl rfl)
      refine ev_goto (tgt := 36) (by decide) d_R_decidedOn_32 ?_
      have hP := kE _ (Option.some.inj h).symm
      exact ev_ireturn (st := []) rfl rfl d_R_decidedOn_36 (by rw [hP]; exact ⟨rfl, hG, rfl⟩)
  clear h
  have h := hj
  refine ev_if_eq (tgt := 17) (by decide) d_R_decidedOn_10 (fun c => ?_) (fun c => ?_)
  · rw [if_pos c] at h
    refine cw_iconst 0 d_R_decidedOn_17 rfl ?_
    obtain rfl := Option.some.inj h
    exact Ev.sub (.s (.s (.n LSb.z))) (K_q2)
  · rw [if_neg c] at h
    refine cw_iconst 1 d_R_decidedOn_13 rfl ?_
    refine ev_goto (tgt := 18) (by decide) d_R_decidedOn_14 ?_
    obtain rfl := Option.some.inj h
    exact Ev.sub (.s (.s (.n LSb.z))) (K_q2)

/-- ProphecyShopModel.laid -/
def f_R_laid (x1 : Int32) (x2 : Int32) (μ : Mem) : Option (Int32) :=
  chk (inb ((7 * x1) + x2) 210) (some (μ 48 0 ((7 * x1) + x2).toNatClampNeg))
set_option maxRecDepth 100000 in
set_option maxHeartbeats 4000000 in
theorem w_R_laid {g : GL} {F G : RG} {nx : Nat} (d : Nat) {x1 : Int32} {x2 : Int32} {μ : Mem}   {o : Int32} (hG : LM vr 535 547 μ F G) (h : f_R_laid x1 x2 μ = some o) : Mt g (d + 0) m_R_laid [.inr (0, off 13 0), .inl (.int x1), .inl (.int x2)] (G, nx) 0 0 (pRO (rI o) (G, nx)) := by
  unfold f_R_laid at h
  have kE : ∀ v, o = v → pRO (rI o) (G, nx) = pRO (rI v) (G, nx) := fun v e => by rw [e]
  refine Mt.of9 [some (.inr (0, off 13 0)), some (.inl (.int x1)), some (.inl (.int x2))] (by decide +kernel) rfl rfl rfl rfl ?_
  refine ev_aload_n (k0 := 0) rfl d_R_laid_0 ?_
  refine cv_get9 (.inr (0, off 48 0)) hG v_13 fg_ProphecyShopModel_39_13 rfl rfl d_R_laid_1 ?_
  refine cw_bipush 7 d_R_laid_4 rfl ?_
  refine ev_iload_n (k0 := 1) rfl d_R_laid_6 ?_
  refine ev_imul d_R_laid_7 ?_
  refine ev_iload_n (k0 := 2) rfl d_R_laid_8 ?_
  refine ev_iadd d_R_laid_9 ?_
  obtain ⟨b1, h⟩ := chk_some h
  refine cv_iald hG v_48 rfl rfl b1 rfl d_R_laid_10 ?_
  have hP := kE _ (Option.some.inj h).symm
  exact ev_ireturn (st := []) rfl rfl d_R_laid_11 (by rw [hP]; exact ⟨rfl, rfl⟩)

/-- ProphecyShopModel.lengths -/
def f_R_lengths (x1 : Int32) (x2 : Int32) (x3 : Int32) (μ : Mem) : Option (Mem) :=
  nm (st3 μ 13 0 23 x1) (fun μ1 => nm (st3 μ1 13 0 24 x2) (fun μ2 => nm (st3 μ2 13 0 25 x3) (fun μ3 => some μ3)))
set_option maxRecDepth 100000 in
set_option maxHeartbeats 4000000 in
theorem w_R_lengths {g : GL} {F G : RG} {nx : Nat} (d : Nat) {x1 : Int32} {x2 : Int32} {x3 : Int32} {μ : Mem}   {o : Mem} (hG : LM vr 535 547 μ F G) (h : f_R_lengths x1 x2 x3 μ = some o) : Mt g (d + 0) m_R_lengths [.inr (0, off 13 0), .inl (.int x1), .inl (.int x2), .inl (.int x3)] (G, nx) 0 0 (pRW vr 535 547 rV o F nx) := by
  unfold f_R_lengths at h
  have kE : ∀ v, o = v → pRW vr 535 547 rV o F nx = pRW vr 535 547 rV v F nx := fun v e => by rw [e]
  refine Mt.of9 [some (.inr (0, off 13 0)), some (.inl (.int x1)), some (.inl (.int x2)), some (.inl (.int x3))] (by decide +kernel) rfl rfl rfl rfl ?_
  refine ev_aload_n (k0 := 0) rfl d_R_lengths_0 ?_
  refine ev_iload_n (k0 := 1) rfl d_R_lengths_1 ?_
  obtain ⟨μ1, e_μ1, h⟩ := nm_some h
  refine cv_put (.inl (.int x1)) x1 hG okR v_13 fl_ProphecyShopModel_373_13 rfl rfl okv_int d_R_lengths_2 ?_
  intro G hG; rw [← e_μ1] at hG
  refine ev_aload_n (k0 := 0) rfl d_R_lengths_5 ?_
  refine ev_iload_n (k0 := 2) rfl d_R_lengths_6 ?_
  obtain ⟨μ2, e_μ2, h⟩ := nm_some h
  refine cv_put (.inl (.int x2)) x2 hG okR v_13 fl_ProphecyShopModel_376_13 rfl rfl okv_int d_R_lengths_7 ?_
  intro G hG; rw [← e_μ2] at hG
  refine ev_aload_n (k0 := 0) rfl d_R_lengths_10 ?_
  refine ev_iload_n (k0 := 3) rfl d_R_lengths_11 ?_
  obtain ⟨μ3, e_μ3, h⟩ := nm_some h
  refine cv_put (.inl (.int x3)) x3 hG okR v_13 fl_ProphecyShopModel_379_13 rfl rfl okv_int d_R_lengths_12 ?_
  intro G hG; rw [← e_μ3] at hG
  have hP := kE _ (Option.some.inj h).symm
  exact ev_return (st := []) rfl d_R_lengths_15 (by rw [hP]; exact ⟨rfl, hG, rfl⟩)

/-- ProphecyShopModel.isCustomer -/
def f_R_isCustomer (x1 : Int32) (μ : Mem) : Option (Int32) :=
  chk (inb 8 524) (((f_R_in x1 0 ((μ 40 0 (8 : Int32).toNatClampNeg) - 1) μ)).bind (fun r2 => chk (nb .boolean r2) (some r2)))
set_option maxRecDepth 100000 in
set_option maxHeartbeats 4000000 in
theorem w_R_isCustomer {g : GL} {F G : RG} {nx : Nat} (d : Nat) {x1 : Int32} {μ : Mem}   {o : Int32} (hG : LM vr 535 547 μ F G) (h : f_R_isCustomer x1 μ = some o) : Mt g (d + 1) m_R_isCustomer [.inr (0, off 13 0), .inl (.int x1)] (G, nx) 0 0 (pRO (rI o) (G, nx)) := by
  unfold f_R_isCustomer at h
  have kE : ∀ v, o = v → pRO (rI o) (G, nx) = pRO (rI v) (G, nx) := fun v e => by rw [e]
  refine Mt.of9 [some (.inr (0, off 13 0)), some (.inl (.int x1))] (by decide +kernel) rfl rfl rfl rfl ?_
  refine ev_iload_n (k0 := 1) rfl d_R_isCustomer_0 ?_
  refine cw_iconst 0 d_R_isCustomer_1 rfl ?_
  refine ev_aload_n (k0 := 0) rfl d_R_isCustomer_2 ?_
  refine cv_get9 (.inr (0, off 40 0)) hG v_13 fg_ProphecyShopModel_7_13 rfl rfl d_R_isCustomer_3 ?_
  refine cw_bipush 8 d_R_isCustomer_6 rfl ?_
  obtain ⟨b1, h⟩ := chk_some h
  refine cv_iald hG v_40 rfl rfl b1 rfl d_R_isCustomer_8 ?_
  refine cw_iconst 1 d_R_isCustomer_9 rfl ?_
  refine ev_isub d_R_isCustomer_10 ?_
  obtain ⟨r2, hr2, h⟩ := bind_some9 h
  refine cw_S (d := d + 0) (mc1 := 0) (ms1 := 0) (mc := 0) (ms := 0) [.inl (.int x1), .inl (.int 0), .inl (.int ((μ 40 0 (8 : Int32).toNatClampNeg) - 1))] lk_ProphecyShopModel_76 (w_R_in (d + 0) hG hr2) rfl rfl d_R_isCustomer_11 (aft_ro ?_)
  refine Ev.at (pc' := 14) rfl (Ev.cong (st' := [.inl (.int r2)]) ?_ rfl rfl)
  obtain ⟨b3, h⟩ := chk_some h
  have hP := kE _ (Option.some.inj h).symm
  exact ev_ireturn (st := []) rfl (nb_eq b3) d_R_isCustomer_14 (by rw [hP]; exact ⟨rfl, rfl⟩)

/-- ProphecyShopModel.isEvent -/
def f_R_isEvent (x1 : Int32) (μ : Mem) : Option (Int32) :=
  chk (inb 6 524) (((f_R_in x1 0 ((μ 40 0 (6 : Int32).toNatClampNeg) - 1) μ)).bind (fun r2 => chk (nb .boolean r2) (some r2)))
set_option maxRecDepth 100000 in
set_option maxHeartbeats 4000000 in
theorem w_R_isEvent {g : GL} {F G : RG} {nx : Nat} (d : Nat) {x1 : Int32} {μ : Mem}   {o : Int32} (hG : LM vr 535 547 μ F G) (h : f_R_isEvent x1 μ = some o) : Mt g (d + 1) m_R_isEvent [.inr (0, off 13 0), .inl (.int x1)] (G, nx) 0 0 (pRO (rI o) (G, nx)) := by
  unfold f_R_isEvent at h
  have kE : ∀ v, o = v → pRO (rI o) (G, nx) = pRO (rI v) (G, nx) := fun v e => by rw [e]
  refine Mt.of9 [some (.inr (0, off 13 0)), some (.inl (.int x1))] (by decide +kernel) rfl rfl rfl rfl ?_
  refine ev_iload_n (k0 := 1) rfl d_R_isEvent_0 ?_
  refine cw_iconst 0 d_R_isEvent_1 rfl ?_
  refine ev_aload_n (k0 := 0) rfl d_R_isEvent_2 ?_
  refine cv_get9 (.inr (0, off 40 0)) hG v_13 fg_ProphecyShopModel_7_13 rfl rfl d_R_isEvent_3 ?_
  refine cw_bipush 6 d_R_isEvent_6 rfl ?_
  obtain ⟨b1, h⟩ := chk_some h
  refine cv_iald hG v_40 rfl rfl b1 rfl d_R_isEvent_8 ?_
  refine cw_iconst 1 d_R_isEvent_9 rfl ?_
  refine ev_isub d_R_isEvent_10 ?_
  obtain ⟨r2, hr2, h⟩ := bind_some9 h
  refine cw_S (d := d + 0) (mc1 := 0) (ms1 := 0) (mc := 0) (ms := 0) [.inl (.int x1), .inl (.int 0), .inl (.int ((μ 40 0 (6 : Int32).toNatClampNeg) - 1))] lk_ProphecyShopModel_76 (w_R_in (d + 0) hG hr2) rfl rfl d_R_isEvent_11 (aft_ro ?_)
  refine Ev.at (pc' := 14) rfl (Ev.cong (st' := [.inl (.int r2)]) ?_ rfl rfl)
  obtain ⟨b3, h⟩ := chk_some h
  have hP := kE _ (Option.some.inj h).symm
  exact ev_ireturn (st := []) rfl (nb_eq b3) d_R_isEvent_14 (by rw [hP]; exact ⟨rfl, rfl⟩)

/-- ProphecyShopModel.isPlace -/
def f_R_isPlace (x1 : Int32) (μ : Mem) : Option (Int32) :=
  chk (inb 7 524) (((f_R_in x1 0 ((μ 40 0 (7 : Int32).toNatClampNeg) - 1) μ)).bind (fun r2 => chk (nb .boolean r2) (some r2)))
set_option maxRecDepth 100000 in
set_option maxHeartbeats 4000000 in
theorem w_R_isPlace {g : GL} {F G : RG} {nx : Nat} (d : Nat) {x1 : Int32} {μ : Mem}   {o : Int32} (hG : LM vr 535 547 μ F G) (h : f_R_isPlace x1 μ = some o) : Mt g (d + 1) m_R_isPlace [.inr (0, off 13 0), .inl (.int x1)] (G, nx) 0 0 (pRO (rI o) (G, nx)) := by
  unfold f_R_isPlace at h
  have kE : ∀ v, o = v → pRO (rI o) (G, nx) = pRO (rI v) (G, nx) := fun v e => by rw [e]
  refine Mt.of9 [some (.inr (0, off 13 0)), some (.inl (.int x1))] (by decide +kernel) rfl rfl rfl rfl ?_
  refine ev_iload_n (k0 := 1) rfl d_R_isPlace_0 ?_
  refine cw_iconst 0 d_R_isPlace_1 rfl ?_
  refine ev_aload_n (k0 := 0) rfl d_R_isPlace_2 ?_
  refine cv_get9 (.inr (0, off 40 0)) hG v_13 fg_ProphecyShopModel_7_13 rfl rfl d_R_isPlace_3 ?_
  refine cw_bipush 7 d_R_isPlace_6 rfl ?_
  obtain ⟨b1, h⟩ := chk_some h
  refine cv_iald hG v_40 rfl rfl b1 rfl d_R_isPlace_8 ?_
  refine cw_iconst 1 d_R_isPlace_9 rfl ?_
  refine ev_isub d_R_isPlace_10 ?_
  obtain ⟨r2, hr2, h⟩ := bind_some9 h
  refine cw_S (d := d + 0) (mc1 := 0) (ms1 := 0) (mc := 0) (ms := 0) [.inl (.int x1), .inl (.int 0), .inl (.int ((μ 40 0 (7 : Int32).toNatClampNeg) - 1))] lk_ProphecyShopModel_76 (w_R_in (d + 0) hG hr2) rfl rfl d_R_isPlace_11 (aft_ro ?_)
  refine Ev.at (pc' := 14) rfl (Ev.cong (st' := [.inl (.int r2)]) ?_ rfl rfl)
  obtain ⟨b3, h⟩ := chk_some h
  have hP := kE _ (Option.some.inj h).symm
  exact ev_ireturn (st := []) rfl (nb_eq b3) d_R_isPlace_14 (by rw [hP]; exact ⟨rfl, rfl⟩)

/-- ProphecyShopModel.selling -/
def f_R_selling (x1 : Int32) (x2 : Int32) (x3 : Int32) (x4 : Int32) (μ : Mem) : Option (Int32 × Mem) :=
  ((f_R_isCustomer x1 μ)).bind (fun r1 => ((if r1 = 0 then (some (0)) else (((f_R_isEvent x2 μ)).bind (fun r38 => if r38 = 0 then (some (0)) else (if x4 = 1 then (some (1)) else (((f_R_isPlace x3 μ)).bind (fun r39 => if r39 = 0 then (some (0)) else (some (1))))))) : Option (Int32))).bind (fun q2 => ((f_R_right q2 1 μ)).bind (fun r3 => if r3.1 = 0 then (some ((0, r3.2))) else (((f_R_in (r3.2 13 0 23) 0 99 r3.2)).bind (fun r4 => ((if r4 = 0 then (some (0)) else (((f_R_in (r3.2 13 0 24) 1 60 r3.2)).bind (fun r36 => if r36 = 0 then (some (0)) else (((f_R_in (r3.2 13 0 25) 1 999 r3.2)).bind (fun r37 => if r37 = 0 then (some (0)) else (some (1)))))) : Option (Int32))).bind (fun q5 => ((f_R_right q5 2 r3.2)).bind (fun r6 => if r6.1 = 0 then (some ((0, r6.2))) else (chk (inb 10 524) (((if (24 : Int32) ≤ (r6.2 40 0 (10 : Int32).toNatClampNeg) then (some (0)) else (((f_R_ofCustomer x1 1 r6.2)).bind (fun r35 => if r35 < (r6.2 13 0 25) then (some (0)) else (some (1)))) : Option (Int32))).bind (fun q8 => ((f_R_right q8 3 r6.2)).bind (fun r9 => if r9.1 = 0 then (some ((0, r9.2))) else (((f_R_changes r9.2)).bind (fun r10 => chk (inb 10 524) (nm (r10 40 0 (10 : Int32).toNatClampNeg : Int32) (fun v12 => chk (inb 10 524) (chk (inb 10 524) (nm (st3 r10 40 0 (10 : Int32).toNatClampNeg ((r10 40 0 (10 : Int32).toNatClampNeg) + 1)) (fun μ15 => chk (inb ((28 + (3 * x1)) + 1) 524) (chk (inb ((28 + (3 * x1)) + 1) 524) (nm (st3 μ15 40 0 ((28 + (3 * x1)) + 1).toNatClampNeg ((μ15 40 0 ((28 + (3 * x1)) + 1).toNatClampNeg) - (μ15 13 0 25))) (fun μ18 => chk (inb 0 524) (chk (inb 0 524) (nm (st3 μ18 40 0 (0 : Int32).toNatClampNeg ((μ18 40 0 (0 : Int32).toNatClampNeg) + (μ18 13 0 25))) (fun μ21 => ((f_R_puts v12 0 x1 μ21)).bind (fun r22 => ((f_R_puts v12 1 x2 r22)).bind (fun r23 => ((f_R_puts v12 2 x3 r23)).bind (fun r24 => ((if x4 = 2 then (some (1)) else (some (0)) : Option (Int32))).bind (fun q25 => ((f_R_puts v12 3 q25 r24)).bind (fun r26 => chk (inb 5 524) (((f_R_puts v12 4 ((r26 40 0 (5 : Int32).toNatClampNeg) + (r26 13 0 23)) r26)).bind (fun r28 => chk (inb 5 524) (((f_R_puts v12 5 ((((r28 40 0 (5 : Int32).toNatClampNeg) + (r28 13 0 23)) + (r28 13 0 24)) - 1) r28)).bind (fun r30 => ((f_R_puts v12 6 (r30 13 0 25) r30)).bind (fun r31 => ((f_R_puts v12 7 0 r31)).bind (fun r32 => ((f_R_puts v12 8 0 r32)).bind (fun r33 => ((f_R_puts v12 9 0 r33)).bind (fun r34 => some ((v12, r34)))))))))))))))))))))))))))))))))))))))
set_option maxRecDepth 100000 in
set_option maxHeartbeats 4000000 in
theorem w_R_selling {g : GL} {F G : RG} {nx : Nat} (d : Nat) {x1 : Int32} {x2 : Int32} {x3 : Int32} {x4 : Int32} {μ : Mem}   {o : Int32 × Mem} (hG : LM vr 535 547 μ F G) (h : f_R_selling x1 x2 x3 x4 μ = some o) : Mt g (d + 2) m_R_selling [.inr (0, off 13 0), .inl (.int x1), .inl (.int x2), .inl (.int x3), .inl (.int x4)] (G, nx) 0 0 (pRW vr 535 547 (rI o.1) o.2 F nx) := by
  unfold f_R_selling at h
  have kE : ∀ v, o = v → pRW vr 535 547 (rI o.1) o.2 F nx = pRW vr 535 547 (rI v.1) v.2 F nx := fun v e => by rw [e]
  refine Mt.of9 [some (.inr (0, off 13 0)), some (.inl (.int x1)), some (.inl (.int x2)), some (.inl (.int x3)), some (.inl (.int x4)), none] (by decide +kernel) rfl rfl rfl rfl ?_
  refine ev_aload_n (k0 := 0) rfl d_R_selling_0 ?_
  refine ev_aload_n (k0 := 0) rfl d_R_selling_1 ?_
  refine ev_iload_n (k0 := 1) rfl d_R_selling_2 ?_
  obtain ⟨r1, hr1, h⟩ := bind_some9 h
  refine cv_V (d := d + 1) (mc1 := 0) (ms1 := 0) (mc := 0) (ms := 0) [.inl (.int x1)] hG v_13 rfl lk_ProphecyShopModel_327 (w_R_isCustomer (d + 0) hG hr1) rfl rfl d_R_selling_3 (aft_ro ?_)
  refine Ev.at (pc' := 6) rfl (Ev.cong (st' := [.inl (.int r1), .inr (0, off 13 0)]) ?_ rfl rfl)
  obtain ⟨q2, hj, h⟩ := bind_some9 h
  have K_q2 : Ev g (d + 2) m_R_selling 36 [some (.inr (0, off 13 0)), some (.inl (.int x1)), some (.inl (.int x2)), some (.inl (.int x3)), some (.inl (.int x4)), none] [.inl (.int q2), .inr (0, off 13 0)] (G, nx) 0 0 (pRW vr 535 547 (rI o.1) o.2 F nx) := by
    refine cw_iconst 1 d_R_selling_36 rfl ?_
    obtain ⟨r3, hr3, h⟩ := bind_some9 h
    refine cv_V (d := d + 1) (mc1 := 0) (ms1 := 0) (mc := 0) (ms := 0) [.inl (.int q2), .inl (.int 1)] hG v_13 rfl lk_ProphecyShopModel_128 (w_R_right (d + 1) hG hr3) rfl rfl d_R_selling_37 (aft_rw (fun G hG => ?_))
    refine Ev.at (pc' := 40) rfl (Ev.cong (st' := [.inl (.int r3.1)]) ?_ rfl rfl)
    refine ev_if_eq (tgt := 96) (by decide) d_R_selling_40 (fun c => ?_) (fun c => ?_)
    · rw [if_pos c] at h
      refine cw_iconst 0 d_R_selling_96 rfl ?_
      have hP := kE _ (Option.some.inj h).symm
      exact ev_ireturn (st := []) rfl rfl d_R_selling_97 (by rw [hP]; exact ⟨rfl, hG, rfl⟩)
    · rw [if_neg c] at h
      refine ev_aload_n (k0 := 0) rfl d_R_selling_43 ?_
      refine ev_aload_n (k0 := 0) rfl d_R_selling_44 ?_
      refine cv_get9 (.inl (.int (r3.2 13 0 23))) hG v_13 fg_ProphecyShopModel_373_13 rfl rfl d_R_selling_45 ?_
      refine cw_iconst 0 d_R_selling_48 rfl ?_
      refine cw_bipush 99 d_R_selling_49 rfl ?_
      obtain ⟨r4, hr4, h⟩ := bind_some9 h
      refine cw_S (d := d + 1) (mc1 := 0) (ms1 := 0) (mc := 0) (ms := 0) [.inl (.int (r3.2 13 0 23)), .inl (.int 0), .inl (.int 99)] lk_ProphecyShopModel_76 (w_R_in (d + 1) hG hr4) rfl rfl d_R_selling_51 (aft_ro ?_)
      refine Ev.at (pc' := 54) rfl (Ev.cong (st' := [.inl (.int r4), .inr (0, off 13 0)]) ?_ rfl rfl)
      obtain ⟨q5, hj, h⟩ := bind_some9 h
      have K_q5 : Ev g (d + 2) m_R_selling 89 [some (.inr (0, off 13 0)), some (.inl (.int x1)), some (.inl (.int x2)), some (.inl (.int x3)), some (.inl (.int x4)), none] [.inl (.int q5), .inr (0, off 13 0)] (G, nx) 0 0 (pRW vr 535 547 (rI o.1) o.2 F nx) := by
        refine cw_iconst 2 d_R_selling_89 rfl ?_
        obtain ⟨r6, hr6, h⟩ := bind_some9 h
        refine cv_V (d := d + 1) (mc1 := 0) (ms1 := 0) (mc := 0) (ms := 0) [.inl (.int q5), .inl (.int 2)] hG v_13 rfl lk_ProphecyShopModel_128 (w_R_right (d + 1) hG hr6) rfl rfl d_R_selling_90 (aft_rw (fun G hG => ?_))
        refine Ev.at (pc' := 93) rfl (Ev.cong (st' := [.inl (.int r6.1)]) ?_ rfl rfl)
        refine ev_if_ne (tgt := 98) (by decide) d_R_selling_93 (fun c => ?_) (fun c => ?_)
        · rw [if_neg c] at h
          refine ev_aload_n (k0 := 0) rfl d_R_selling_98 ?_
          refine ev_aload_n (k0 := 0) rfl d_R_selling_99 ?_
          refine cv_get9 (.inr (0, off 40 0)) hG v_13 fg_ProphecyShopModel_7_13 rfl rfl d_R_selling_100 ?_
          refine cw_bipush 10 d_R_selling_103 rfl ?_
          obtain ⟨b7, h⟩ := chk_some h
          refine cv_iald hG v_40 rfl rfl b7 rfl d_R_selling_105 ?_
          refine cw_bipush 24 d_R_selling_106 rfl ?_
          obtain ⟨q8, hj, h⟩ := bind_some9 h
          have K_q8 : Ev g (d + 2) m_R_selling 129 [some (.inr (0, off 13 0)), some (.inl (.int x1)), some (.inl (.int x2)), some (.inl (.int x3)), some (.inl (.int x4)), none] [.inl (.int q8), .inr (0, off 13 0)] (G, nx) 0 0 (pRW vr 535 547 (rI o.1) o.2 F nx) := by
            refine cw_iconst 3 d_R_selling_129 rfl ?_
            obtain ⟨r9, hr9, h⟩ := bind_some9 h
            refine cv_V (d := d + 1) (mc1 := 0) (ms1 := 0) (mc := 0) (ms := 0) [.inl (.int q8), .inl (.int 3)] hG v_13 rfl lk_ProphecyShopModel_128 (w_R_right (d + 1) hG hr9) rfl rfl d_R_selling_130 (aft_rw (fun G hG => ?_))
            refine Ev.at (pc' := 133) rfl (Ev.cong (st' := [.inl (.int r9.1)]) ?_ rfl rfl)
            refine ev_if_ne (tgt := 138) (by decide) d_R_selling_133 (fun c => ?_) (fun c => ?_)
            · rw [if_neg c] at h
              refine ev_aload_n (k0 := 0) rfl d_R_selling_138 ?_
              obtain ⟨r10, hr10, h⟩ := bind_some9 h
              refine cv_V (d := d + 1) (mc1 := 0) (ms1 := 0) (mc := 0) (ms := 0) [] hG v_13 rfl lk_ProphecyShopModel_382 (w_R_changes (d + 0) hG hr10) rfl rfl d_R_selling_139 (aft_rw (fun G hG => ?_))
              refine Ev.at (pc' := 142) rfl (Ev.cong (st' := []) ?_ rfl rfl)
              refine ev_aload_n (k0 := 0) rfl d_R_selling_142 ?_
              refine cv_get9 (.inr (0, off 40 0)) hG v_13 fg_ProphecyShopModel_7_13 rfl rfl d_R_selling_143 ?_
              refine cw_bipush 10 d_R_selling_146 rfl ?_
              obtain ⟨b11, h⟩ := chk_some h
              refine cv_iald hG v_40 rfl rfl b11 rfl d_R_selling_148 ?_
              obtain ⟨v12, e_v12, h⟩ := nm_some h
              refine cw_istoreN 5 v12 e_v12 [some (.inr (0, off 13 0)), some (.inl (.int x1)), some (.inl (.int x2)), some (.inl (.int x3)), some (.inl (.int x4)), some (.inl (.int v12))] d_R_selling_149 rfl rfl rfl ?_
              refine ev_aload_n (k0 := 0) rfl d_R_selling_151 ?_
              refine cv_get9 (.inr (0, off 40 0)) hG v_13 fg_ProphecyShopModel_7_13 rfl rfl d_R_selling_152 ?_
              refine cw_bipush 10 d_R_selling_155 rfl ?_
              refine ev_dup2 rfl rfl d_R_selling_157 ?_
              obtain ⟨b13, h⟩ := chk_some h
              refine cv_iald hG v_40 rfl rfl b13 rfl d_R_selling_158 ?_
              refine cw_iconst 1 d_R_selling_159 rfl ?_
              refine Ev.at (pc' := 160) rfl ?_
              refine ev_iadd d_R_selling_160 ?_
              obtain ⟨b14, h⟩ := chk_some h
              obtain ⟨μ15, e_μ15, h⟩ := nm_some h
              refine cv_iast hG okR v_40 rfl rfl b14 rfl d_R_selling_161 ?_
              intro G hG; rw [← e_μ15] at hG
              refine ev_aload_n (k0 := 0) rfl d_R_selling_162 ?_
              refine cv_get9 (.inr (0, off 40 0)) hG v_13 fg_ProphecyShopModel_7_13 rfl rfl d_R_selling_163 ?_
              refine cw_bipush 28 d_R_selling_166 rfl ?_
              refine cw_iconst 3 d_R_selling_168 rfl ?_
              refine ev_iload_n (k0 := 1) rfl d_R_selling_169 ?_
              refine ev_imul d_R_selling_170 ?_
              refine ev_iadd d_R_selling_171 ?_
              refine cw_iconst 1 d_R_selling_172 rfl ?_
              refine ev_iadd d_R_selling_173 ?_
              refine ev_dup2 rfl rfl d_R_selling_174 ?_
              refine Ev.at (pc' := 175) rfl ?_
              obtain ⟨b16, h⟩ := chk_some h
              refine cv_iald hG v_40 rfl rfl b16 rfl d_R_selling_175 ?_
              refine ev_aload_n (k0 := 0) rfl d_R_selling_176 ?_
              refine cv_get9 (.inl (.int (μ15 13 0 25))) hG v_13 fg_ProphecyShopModel_379_13 rfl rfl d_R_selling_177 ?_
              refine ev_isub d_R_selling_180 ?_
              obtain ⟨b17, h⟩ := chk_some h
              obtain ⟨μ18, e_μ18, h⟩ := nm_some h
              refine cv_iast hG okR v_40 rfl rfl b17 rfl d_R_selling_181 ?_
              intro G hG; rw [← e_μ18] at hG
              refine ev_aload_n (k0 := 0) rfl d_R_selling_182 ?_
              refine cv_get9 (.inr (0, off 40 0)) hG v_13 fg_ProphecyShopModel_7_13 rfl rfl d_R_selling_183 ?_
              refine cw_iconst 0 d_R_selling_186 rfl ?_
              refine ev_dup2 rfl rfl d_R_selling_187 ?_
              obtain ⟨b19, h⟩ := chk_some h
              refine cv_iald hG v_40 rfl rfl b19 rfl d_R_selling_188 ?_
              refine ev_aload_n (k0 := 0) rfl d_R_selling_189 ?_
              refine cv_get9 (.inl (.int (μ18 13 0 25))) hG v_13 fg_ProphecyShopModel_379_13 rfl rfl d_R_selling_190 ?_
              refine Ev.at (pc' := 193) rfl ?_
              refine ev_iadd d_R_selling_193 ?_
              obtain ⟨b20, h⟩ := chk_some h
              obtain ⟨μ21, e_μ21, h⟩ := nm_some h
              refine cv_iast hG okR v_40 rfl rfl b20 rfl d_R_selling_194 ?_
              intro G hG; rw [← e_μ21] at hG
              refine ev_aload_n (k0 := 0) rfl d_R_selling_195 ?_
              refine ev_iload (i := 5) rfl d_R_selling_196 ?_
              refine cw_iconst 0 d_R_selling_198 rfl ?_
              refine ev_iload_n (k0 := 1) rfl d_R_selling_199 ?_
              obtain ⟨r22, hr22, h⟩ := bind_some9 h
              refine cv_V (d := d + 1) (mc1 := 0) (ms1 := 0) (mc := 0) (ms := 0) [.inl (.int v12), .inl (.int 0), .inl (.int x1)] hG v_13 rfl lk_ProphecyShopModel_80 (w_R_puts (d + 1) hG hr22) rfl rfl d_R_selling_200 (aft_rw (fun G hG => ?_))
              refine Ev.at (pc' := 203) rfl (Ev.cong (st' := []) ?_ rfl rfl)
              refine ev_aload_n (k0 := 0) rfl d_R_selling_203 ?_
              refine ev_iload (i := 5) rfl d_R_selling_204 ?_
              refine cw_iconst 1 d_R_selling_206 rfl ?_
              refine ev_iload_n (k0 := 2) rfl d_R_selling_207 ?_
              obtain ⟨r23, hr23, h⟩ := bind_some9 h
              refine cv_V (d := d + 1) (mc1 := 0) (ms1 := 0) (mc := 0) (ms := 0) [.inl (.int v12), .inl (.int 1), .inl (.int x2)] hG v_13 rfl lk_ProphecyShopModel_80 (w_R_puts (d + 1) hG hr23) rfl rfl d_R_selling_208 (aft_rw (fun G hG => ?_))
              refine Ev.at (pc' := 211) rfl (Ev.cong (st' := []) ?_ rfl rfl)
              refine ev_aload_n (k0 := 0) rfl d_R_selling_211 ?_
              refine ev_iload (i := 5) rfl d_R_selling_212 ?_
              refine cw_iconst 2 d_R_selling_214 rfl ?_
              refine ev_iload_n (k0 := 3) rfl d_R_selling_215 ?_
              obtain ⟨r24, hr24, h⟩ := bind_some9 h
              refine cv_V (d := d + 1) (mc1 := 0) (ms1 := 0) (mc := 0) (ms := 0) [.inl (.int v12), .inl (.int 2), .inl (.int x3)] hG v_13 rfl lk_ProphecyShopModel_80 (w_R_puts (d + 1) hG hr24) rfl rfl d_R_selling_216 (aft_rw (fun G hG => ?_))
              refine Ev.at (pc' := 219) rfl (Ev.cong (st' := []) ?_ rfl rfl)
              refine ev_aload_n (k0 := 0) rfl d_R_selling_219 ?_
              refine ev_iload (i := 5) rfl d_R_selling_220 ?_
              refine cw_iconst 3 d_R_selling_222 rfl ?_
              refine ev_iload (i := 4) rfl d_R_selling_223 ?_
              refine cw_iconst 2 d_R_selling_225 rfl ?_
              obtain ⟨q25, hj, h⟩ := bind_some9 h
              have K_q25 : Ev g (d + 2) m_R_selling 234 [some (.inr (0, off 13 0)), none, none, none, none, some (.inl (.int v12))] [.inl (.int q25), .inl (.int 3), .inl (.int v12), .inr (0, off 13 0)] (G, nx) 0 0 (pRW vr 535 547 (rI o.1) o.2 F nx) := by
                obtain ⟨r26, hr26, h⟩ := bind_some9 h
                refine cv_V (d := d + 1) (mc1 := 0) (ms1 := 0) (mc := 0) (ms := 0) [.inl (.int v12), .inl (.int 3), .inl (.int q25)] hG v_13 rfl lk_ProphecyShopModel_80 (w_R_puts (d + 1) hG hr26) rfl rfl d_R_selling_234 (aft_rw (fun G hG => ?_))
                refine Ev.at (pc' := 237) rfl (Ev.cong (st' := []) ?_ rfl rfl)
                refine ev_aload_n (k0 := 0) rfl d_R_selling_237 ?_
                refine ev_iload (i := 5) rfl d_R_selling_238 ?_
                refine cw_iconst 4 d_R_selling_240 rfl ?_
                refine ev_aload_n (k0 := 0) rfl d_R_selling_241 ?_
                refine cv_get9 (.inr (0, off 40 0)) hG v_13 fg_ProphecyShopModel_7_13 rfl rfl d_R_selling_242 ?_
                refine cw_iconst 5 d_R_selling_245 rfl ?_
                obtain ⟨b27, h⟩ := chk_some h
                refine cv_iald hG v_40 rfl rfl b27 rfl d_R_selling_246 ?_
                refine ev_aload_n (k0 := 0) rfl d_R_selling_247 ?_
                refine cv_get9 (.inl (.int (r26 13 0 23))) hG v_13 fg_ProphecyShopModel_373_13 rfl rfl d_R_selling_248 ?_
                refine ev_iadd d_R_selling_251 ?_
                obtain ⟨r28, hr28, h⟩ := bind_some9 h
                refine cv_V (d := d + 1) (mc1 := 0) (ms1 := 0) (mc := 0) (ms := 0) [.inl (.int v12), .inl (.int 4), .inl (.int ((r26 40 0 (5 : Int32).toNatClampNeg) + (r26 13 0 23)))] hG v_13 rfl lk_ProphecyShopModel_80 (w_R_puts (d + 1) hG hr28) rfl rfl d_R_selling_252 (aft_rw (fun G hG => ?_))
                refine Ev.at (pc' := 255) rfl (Ev.cong (st' := []) ?_ rfl rfl)
                refine ev_aload_n (k0 := 0) rfl d_R_selling_255 ?_
                refine ev_iload (i := 5) rfl d_R_selling_256 ?_
                refine cw_iconst 5 d_R_selling_258 rfl ?_
                refine ev_aload_n (k0 := 0) rfl d_R_selling_259 ?_
                refine cv_get9 (.inr (0, off 40 0)) hG v_13 fg_ProphecyShopModel_7_13 rfl rfl d_R_selling_260 ?_
                refine cw_iconst 5 d_R_selling_263 rfl ?_
                obtain ⟨b29, h⟩ := chk_some h
                refine cv_iald hG v_40 rfl rfl b29 rfl d_R_selling_264 ?_
                refine ev_aload_n (k0 := 0) rfl d_R_selling_265 ?_
                refine cv_get9 (.inl (.int (r28 13 0 23))) hG v_13 fg_ProphecyShopModel_373_13 rfl rfl d_R_selling_266 ?_
                refine ev_iadd d_R_selling_269 ?_
                refine ev_aload_n (k0 := 0) rfl d_R_selling_270 ?_
                refine Ev.at (pc' := 271) rfl ?_
                refine cv_get9 (.inl (.int (r28 13 0 24))) hG v_13 fg_ProphecyShopModel_376_13 rfl rfl d_R_selling_271 ?_
                refine ev_iadd d_R_selling_274 ?_
                refine cw_iconst 1 d_R_selling_275 rfl ?_
                refine ev_isub d_R_selling_276 ?_
                obtain ⟨r30, hr30, h⟩ := bind_some9 h
                refine cv_V (d := d + 1) (mc1 := 0) (ms1 := 0) (mc := 0) (ms := 0) [.inl (.int v12), .inl (.int 5), .inl (.int ((((r28 40 0 (5 : Int32).toNatClampNeg) + (r28 13 0 23)) + (r28 13 0 24)) - 1))] hG v_13 rfl lk_ProphecyShopModel_80 (w_R_puts (d + 1) hG hr30) rfl rfl d_R_selling_277 (aft_rw (fun G hG => ?_))
                refine Ev.at (pc' := 280) rfl (Ev.cong (st' := []) ?_ rfl rfl)
                refine ev_aload_n (k0 := 0) rfl d_R_selling_280 ?_
                refine ev_iload (i := 5) rfl d_R_selling_281 ?_
                refine cw_bipush 6 d_R_selling_283 rfl ?_
                refine ev_aload_n (k0 := 0) rfl d_R_selling_285 ?_
                refine cv_get9 (.inl (.int (r30 13 0 25))) hG v_13 fg_ProphecyShopModel_379_13 rfl rfl d_R_selling_286 ?_
                obtain ⟨r31, hr31, h⟩ := bind_some9 h
                refine cv_V (d := d + 1) (mc1 := 0) (ms1 := 0) (mc := 0) (ms := 0) [.inl (.int v12), .inl (.int 6), .inl (.int (r30 13 0 25))] hG v_13 rfl lk_ProphecyShopModel_80 (w_R_puts (d + 1) hG hr31) rfl rfl d_R_selling_289 (aft_rw (fun G hG => ?_))
                refine Ev.at (pc' := 292) rfl (Ev.cong (st' := []) ?_ rfl rfl)
                refine ev_aload_n (k0 := 0) rfl d_R_selling_292 ?_
                refine ev_iload (i := 5) rfl d_R_selling_293 ?_
                refine cw_bipush 7 d_R_selling_295 rfl ?_
                refine cw_iconst 0 d_R_selling_297 rfl ?_
                obtain ⟨r32, hr32, h⟩ := bind_some9 h
                refine cv_V (d := d + 1) (mc1 := 0) (ms1 := 0) (mc := 0) (ms := 0) [.inl (.int v12), .inl (.int 7), .inl (.int 0)] hG v_13 rfl lk_ProphecyShopModel_80 (w_R_puts (d + 1) hG hr32) rfl rfl d_R_selling_298 (aft_rw (fun G hG => ?_))
                refine Ev.at (pc' := 301) rfl (Ev.cong (st' := []) ?_ rfl rfl)
                refine ev_aload_n (k0 := 0) rfl d_R_selling_301 ?_
                refine ev_iload (i := 5) rfl d_R_selling_302 ?_
                refine cw_bipush 8 d_R_selling_304 rfl ?_
                refine cw_iconst 0 d_R_selling_306 rfl ?_
                obtain ⟨r33, hr33, h⟩ := bind_some9 h
                refine cv_V (d := d + 1) (mc1 := 0) (ms1 := 0) (mc := 0) (ms := 0) [.inl (.int v12), .inl (.int 8), .inl (.int 0)] hG v_13 rfl lk_ProphecyShopModel_80 (w_R_puts (d + 1) hG hr33) rfl rfl d_R_selling_307 (aft_rw (fun G hG => ?_))
                refine Ev.at (pc' := 310) rfl (Ev.cong (st' := []) ?_ rfl rfl)
                refine ev_aload_n (k0 := 0) rfl d_R_selling_310 ?_
                refine ev_iload (i := 5) rfl d_R_selling_311 ?_
                refine cw_bipush 9 d_R_selling_313 rfl ?_
                refine cw_iconst 0 d_R_selling_315 rfl ?_
                obtain ⟨r34, hr34, h⟩ := bind_some9 h
                refine cv_V (d := d + 1) (mc1 := 0) (ms1 := 0) (mc := 0) (ms := 0) [.inl (.int v12), .inl (.int 9), .inl (.int 0)] hG v_13 rfl lk_ProphecyShopModel_80 (w_R_puts (d + 1) hG hr34) rfl rfl d_R_selling_316 (aft_rw (fun G hG => ?_))
                refine Ev.at (pc' := 319) rfl (Ev.cong (st' := []) ?_ rfl rfl)
                refine ev_iload (i := 5) rfl d_R_selling_319 ?_
                have hP := kE _ (Option.some.inj h).symm
                exact ev_ireturn (st := []) rfl rfl d_R_selling_321 (by rw [hP]; exact ⟨rfl, hG, rfl⟩)
              clear h
              have h := hj
              refine ev_icmp_ne (tgt := 233) (by decide) d_R_selling_226 (fun c => ?_) (fun c => ?_)
              · rw [if_neg c] at h
                refine cw_iconst 0 d_R_selling_233 rfl ?_
                obtain rfl := Option.some.inj h
                exact Ev.sub (.s (.n (.n (.n (.n (.s LSb.z)))))) (K_q25)
              · rw [if_pos c] at h
                refine cw_iconst 1 d_R_selling_229 rfl ?_
                refine ev_goto (tgt := 234) (by decide) d_R_selling_230 ?_
                obtain rfl := Option.some.inj h
                exact Ev.sub (.s (.n (.n (.n (.n (.s LSb.z)))))) (K_q25)
            · rw [if_pos c] at h
              refine cw_iconst 0 d_R_selling_136 rfl ?_
              have hP := kE _ (Option.some.inj h).symm
              exact ev_ireturn (st := []) rfl rfl d_R_selling_137 (by rw [hP]; exact ⟨rfl, hG, rfl⟩)
          clear h
          have h := hj
          refine ev_icmp_ge (tgt := 128) (by decide) d_R_selling_108 (fun c => ?_) (fun c => ?_)
          · rw [if_pos c] at h
            refine cw_iconst 0 d_R_selling_128 rfl ?_
            obtain rfl := Option.some.inj h
            exact K_q8
          · rw [if_neg c] at h
            refine ev_aload_n (k0 := 0) rfl d_R_selling_111 ?_
            refine ev_iload_n (k0 := 1) rfl d_R_selling_112 ?_
            refine cw_iconst 1 d_R_selling_113 rfl ?_
            obtain ⟨r35, hr35, h⟩ := bind_some9 h
            refine cv_V (d := d + 1) (mc1 := 0) (ms1 := 0) (mc := 0) (ms := 0) [.inl (.int x1), .inl (.int 1)] hG v_13 rfl lk_ProphecyShopModel_101 (w_R_ofCustomer (d + 1) hG hr35) rfl rfl d_R_selling_114 (aft_ro ?_)
            refine Ev.at (pc' := 117) rfl (Ev.cong (st' := [.inl (.int r35), .inr (0, off 13 0)]) ?_ rfl rfl)
            refine ev_aload_n (k0 := 0) rfl d_R_selling_117 ?_
            refine cv_get9 (.inl (.int (r6.2 13 0 25))) hG v_13 fg_ProphecyShopModel_379_13 rfl rfl d_R_selling_118 ?_
            refine ev_icmp_lt (tgt := 128) (by decide) d_R_selling_121 (fun c => ?_) (fun c => ?_)
            · rw [if_pos c] at h
              refine cw_iconst 0 d_R_selling_128 rfl ?_
              obtain rfl := Option.some.inj h
              exact K_q8
            · rw [if_neg c] at h
              refine cw_iconst 1 d_R_selling_124 rfl ?_
              refine ev_goto (tgt := 129) (by decide) d_R_selling_125 ?_
              obtain rfl := Option.some.inj h
              exact K_q8
        · rw [if_pos c] at h
          refine cw_iconst 0 d_R_selling_96 rfl ?_
          have hP := kE _ (Option.some.inj h).symm
          exact ev_ireturn (st := []) rfl rfl d_R_selling_97 (by rw [hP]; exact ⟨rfl, hG, rfl⟩)
      clear h
      have h := hj
      refine ev_if_eq (tgt := 88) (by decide) d_R_selling_54 (fun c => ?_) (fun c => ?_)
      · rw [if_pos c] at h
        refine cw_iconst 0 d_R_selling_88 rfl ?_
        obtain rfl := Option.some.inj h
        exact K_q5
      · rw [if_neg c] at h
        refine ev_aload_n (k0 := 0) rfl d_R_selling_57 ?_
        refine cv_get9 (.inl (.int (r3.2 13 0 24))) hG v_13 fg_ProphecyShopModel_376_13 rfl rfl d_R_selling_58 ?_
        refine cw_iconst 1 d_R_selling_61 rfl ?_
        refine cw_bipush 60 d_R_selling_62 rfl ?_
        obtain ⟨r36, hr36, h⟩ := bind_some9 h
        refine cw_S (d := d + 1) (mc1 := 0) (ms1 := 0) (mc := 0) (ms := 0) [.inl (.int (r3.2 13 0 24)), .inl (.int 1), .inl (.int 60)] lk_ProphecyShopModel_76 (w_R_in (d + 1) hG hr36) rfl rfl d_R_selling_64 (aft_ro ?_)
        refine Ev.at (pc' := 67) rfl (Ev.cong (st' := [.inl (.int r36), .inr (0, off 13 0)]) ?_ rfl rfl)
        refine ev_if_eq (tgt := 88) (by decide) d_R_selling_67 (fun c => ?_) (fun c => ?_)
        · rw [if_pos c] at h
          refine cw_iconst 0 d_R_selling_88 rfl ?_
          obtain rfl := Option.some.inj h
          exact K_q5
        · rw [if_neg c] at h
          refine ev_aload_n (k0 := 0) rfl d_R_selling_70 ?_
          refine cv_get9 (.inl (.int (r3.2 13 0 25))) hG v_13 fg_ProphecyShopModel_379_13 rfl rfl d_R_selling_71 ?_
          refine cw_iconst 1 d_R_selling_74 rfl ?_
          refine cw_sipush 999 d_R_selling_75 rfl ?_
          obtain ⟨r37, hr37, h⟩ := bind_some9 h
          refine cw_S (d := d + 1) (mc1 := 0) (ms1 := 0) (mc := 0) (ms := 0) [.inl (.int (r3.2 13 0 25)), .inl (.int 1), .inl (.int 999)] lk_ProphecyShopModel_76 (w_R_in (d + 1) hG hr37) rfl rfl d_R_selling_78 (aft_ro ?_)
          refine Ev.at (pc' := 81) rfl (Ev.cong (st' := [.inl (.int r37), .inr (0, off 13 0)]) ?_ rfl rfl)
          refine ev_if_eq (tgt := 88) (by decide) d_R_selling_81 (fun c => ?_) (fun c => ?_)
          · rw [if_pos c] at h
            refine cw_iconst 0 d_R_selling_88 rfl ?_
            obtain rfl := Option.some.inj h
            exact K_q5
          · rw [if_neg c] at h
            refine cw_iconst 1 d_R_selling_84 rfl ?_
            refine ev_goto (tgt := 89) (by decide) d_R_selling_85 ?_
            obtain rfl := Option.some.inj h
            exact K_q5
  clear h
  have h := hj
  refine ev_if_eq (tgt := 35) (by decide) d_R_selling_6 (fun c => ?_) (fun c => ?_)
  · rw [if_pos c] at h
    refine cw_iconst 0 d_R_selling_35 rfl ?_
    obtain rfl := Option.some.inj h
    exact K_q2
  · rw [if_neg c] at h
    refine ev_aload_n (k0 := 0) rfl d_R_selling_9 ?_
    refine ev_iload_n (k0 := 2) rfl d_R_selling_10 ?_
    obtain ⟨r38, hr38, h⟩ := bind_some9 h
    refine cv_V (d := d + 1) (mc1 := 0) (ms1 := 0) (mc := 0) (ms := 0) [.inl (.int x2)] hG v_13 rfl lk_ProphecyShopModel_330 (w_R_isEvent (d + 0) hG hr38) rfl rfl d_R_selling_11 (aft_ro ?_)
    refine Ev.at (pc' := 14) rfl (Ev.cong (st' := [.inl (.int r38), .inr (0, off 13 0)]) ?_ rfl rfl)
    refine ev_if_eq (tgt := 35) (by decide) d_R_selling_14 (fun c => ?_) (fun c => ?_)
    · rw [if_pos c] at h
      refine cw_iconst 0 d_R_selling_35 rfl ?_
      obtain rfl := Option.some.inj h
      exact K_q2
    · rw [if_neg c] at h
      refine ev_iload (i := 4) rfl d_R_selling_17 ?_
      refine cw_iconst 1 d_R_selling_19 rfl ?_
      refine ev_icmp_eq (tgt := 31) (by decide) d_R_selling_20 (fun c => ?_) (fun c => ?_)
      · rw [if_pos c] at h
        refine cw_iconst 1 d_R_selling_31 rfl ?_
        refine ev_goto (tgt := 36) (by decide) d_R_selling_32 ?_
        obtain rfl := Option.some.inj h
        exact K_q2
      · rw [if_neg c] at h
        refine ev_aload_n (k0 := 0) rfl d_R_selling_23 ?_
        refine ev_iload_n (k0 := 3) rfl d_R_selling_24 ?_
        obtain ⟨r39, hr39, h⟩ := bind_some9 h
        refine cv_V (d := d + 1) (mc1 := 0) (ms1 := 0) (mc := 0) (ms := 0) [.inl (.int x3)] hG v_13 rfl lk_ProphecyShopModel_333 (w_R_isPlace (d + 0) hG hr39) rfl rfl d_R_selling_25 (aft_ro ?_)
        refine Ev.at (pc' := 28) rfl (Ev.cong (st' := [.inl (.int r39), .inr (0, off 13 0)]) ?_ rfl rfl)
        refine ev_if_eq (tgt := 35) (by decide) d_R_selling_28 (fun c => ?_) (fun c => ?_)
        · rw [if_pos c] at h
          refine cw_iconst 0 d_R_selling_35 rfl ?_
          obtain rfl := Option.some.inj h
          exact K_q2
        · rw [if_neg c] at h
          refine cw_iconst 1 d_R_selling_31 rfl ?_
          refine ev_goto (tgt := 36) (by decide) d_R_selling_32 ?_
          obtain rfl := Option.some.inj h
          exact K_q2

/-- ProphecyShopModel.hits -/
def f_R_hits (x1 : Int32) (x2 : Int32) (x3 : Int32) (μ : Mem) : Option (Int32) :=
  ((f_R_of x1 7 μ)).bind (fun r1 => if r1 = 0 then (((f_R_of x1 1 μ)).bind (fun r2 => if r2 = x2 then (((f_R_of x1 4 μ)).bind (fun r3 => chk (inb 5 524) (if (μ 40 0 (5 : Int32).toNatClampNeg) < r3 then some 0 else (((f_R_of x1 2 μ)).bind (fun r5 => if r5 = ((-1)) then some 1 else (((f_R_of x1 2 μ)).bind (fun r6 => if r6 = x3 then some 1 else (some 0)))))))) else (some 0))) else (some 0))
set_option maxRecDepth 100000 in
set_option maxHeartbeats 4000000 in
theorem w_R_hits {g : GL} {F G : RG} {nx : Nat} (d : Nat) {x1 : Int32} {x2 : Int32} {x3 : Int32} {μ : Mem}   {o : Int32} (hG : LM vr 535 547 μ F G) (h : f_R_hits x1 x2 x3 μ = some o) : Mt g (d + 1) m_R_hits [.inr (0, off 13 0), .inl (.int x1), .inl (.int x2), .inl (.int x3)] (G, nx) 0 0 (pRO (rI o) (G, nx)) := by
  unfold f_R_hits at h
  have kE : ∀ v, o = v → pRO (rI o) (G, nx) = pRO (rI v) (G, nx) := fun v e => by rw [e]
  refine Mt.of9 [some (.inr (0, off 13 0)), some (.inl (.int x1)), some (.inl (.int x2)), some (.inl (.int x3))] (by decide +kernel) rfl rfl rfl rfl ?_
  refine ev_aload_n (k0 := 0) rfl d_R_hits_0 ?_
  refine ev_iload_n (k0 := 1) rfl d_R_hits_1 ?_
  refine cw_bipush 7 d_R_hits_2 rfl ?_
  obtain ⟨r1, hr1, h⟩ := bind_some9 h
  refine cv_V (d := d + 0) (mc1 := 0) (ms1 := 0) (mc := 0) (ms := 0) [.inl (.int x1), .inl (.int 7)] hG v_13 rfl lk_ProphecyShopModel_84 (w_R_of (d + 0) hG hr1) rfl rfl d_R_hits_4 (aft_ro ?_)
  refine Ev.at (pc' := 7) rfl (Ev.cong (st' := [.inl (.int r1)]) ?_ rfl rfl)
  refine ev_if_ne (tgt := 59) (by decide) d_R_hits_7 (fun c => ?_) (fun c => ?_)
  · rw [if_neg c] at h
    refine cw_iconst 0 d_R_hits_59 rfl ?_
    have hP := kE _ (Option.some.inj h).symm
    exact ev_ireturn (st := []) rfl rfl d_R_hits_60 (by rw [hP]; exact ⟨rfl, rfl⟩)
  · rw [if_pos c] at h
    refine ev_aload_n (k0 := 0) rfl d_R_hits_10 ?_
    refine ev_iload_n (k0 := 1) rfl d_R_hits_11 ?_
    refine cw_iconst 1 d_R_hits_12 rfl ?_
    obtain ⟨r2, hr2, h⟩ := bind_some9 h
    refine cv_V (d := d + 0) (mc1 := 0) (ms1 := 0) (mc := 0) (ms := 0) [.inl (.int x1), .inl (.int 1)] hG v_13 rfl lk_ProphecyShopModel_84 (w_R_of (d + 0) hG hr2) rfl rfl d_R_hits_13 (aft_ro ?_)
    refine Ev.at (pc' := 16) rfl (Ev.cong (st' := [.inl (.int r2)]) ?_ rfl rfl)
    refine ev_iload_n (k0 := 2) rfl d_R_hits_16 ?_
    refine ev_icmp_ne (tgt := 59) (by decide) d_R_hits_17 (fun c => ?_) (fun c => ?_)
    · rw [if_neg c] at h
      refine cw_iconst 0 d_R_hits_59 rfl ?_
      have hP := kE _ (Option.some.inj h).symm
      exact ev_ireturn (st := []) rfl rfl d_R_hits_60 (by rw [hP]; exact ⟨rfl, rfl⟩)
    · rw [if_pos c] at h
      refine ev_aload_n (k0 := 0) rfl d_R_hits_20 ?_
      refine ev_iload_n (k0 := 1) rfl d_R_hits_21 ?_
      refine cw_iconst 4 d_R_hits_22 rfl ?_
      obtain ⟨r3, hr3, h⟩ := bind_some9 h
      refine cv_V (d := d + 0) (mc1 := 0) (ms1 := 0) (mc := 0) (ms := 0) [.inl (.int x1), .inl (.int 4)] hG v_13 rfl lk_ProphecyShopModel_84 (w_R_of (d + 0) hG hr3) rfl rfl d_R_hits_23 (aft_ro ?_)
      refine Ev.at (pc' := 26) rfl (Ev.cong (st' := [.inl (.int r3)]) ?_ rfl rfl)
      refine ev_aload_n (k0 := 0) rfl d_R_hits_26 ?_
      refine cv_get9 (.inr (0, off 40 0)) hG v_13 fg_ProphecyShopModel_7_13 rfl rfl d_R_hits_27 ?_
      refine cw_iconst 5 d_R_hits_30 rfl ?_
      obtain ⟨b4, h⟩ := chk_some h
      refine cv_iald hG v_40 rfl rfl b4 rfl d_R_hits_31 ?_
      refine ev_icmp_gt (tgt := 59) (by decide) d_R_hits_32 (fun c => ?_) (fun c => ?_)
      · rw [if_pos c] at h
        refine cw_iconst 0 d_R_hits_59 rfl ?_
        have hP := kE _ (Option.some.inj h).symm
        exact ev_ireturn (st := []) rfl rfl d_R_hits_60 (by rw [hP]; exact ⟨rfl, rfl⟩)
      · rw [if_neg c] at h
        refine ev_aload_n (k0 := 0) rfl d_R_hits_35 ?_
        refine ev_iload_n (k0 := 1) rfl d_R_hits_36 ?_
        refine cw_iconst 2 d_R_hits_37 rfl ?_
        obtain ⟨r5, hr5, h⟩ := bind_some9 h
        refine cv_V (d := d + 0) (mc1 := 0) (ms1 := 0) (mc := 0) (ms := 0) [.inl (.int x1), .inl (.int 2)] hG v_13 rfl lk_ProphecyShopModel_84 (w_R_of (d + 0) hG hr5) rfl rfl d_R_hits_38 (aft_ro ?_)
        refine Ev.at (pc' := 41) rfl (Ev.cong (st' := [.inl (.int r5)]) ?_ rfl rfl)
        refine cw_iconst (-1) d_R_hits_41 rfl ?_
        refine ev_icmp_eq (tgt := 55) (by decide) d_R_hits_42 (fun c => ?_) (fun c => ?_)
        · rw [if_pos c] at h
          refine cw_iconst 1 d_R_hits_55 rfl ?_
          refine ev_goto (tgt := 60) (by decide) d_R_hits_56 ?_
          have hP := kE _ (Option.some.inj h).symm
          exact ev_ireturn (st := []) rfl rfl d_R_hits_60 (by rw [hP]; exact ⟨rfl, rfl⟩)
        · rw [if_neg c] at h
          refine ev_aload_n (k0 := 0) rfl d_R_hits_45 ?_
          refine ev_iload_n (k0 := 1) rfl d_R_hits_46 ?_
          refine cw_iconst 2 d_R_hits_47 rfl ?_
          obtain ⟨r6, hr6, h⟩ := bind_some9 h
          refine cv_V (d := d + 0) (mc1 := 0) (ms1 := 0) (mc := 0) (ms := 0) [.inl (.int x1), .inl (.int 2)] hG v_13 rfl lk_ProphecyShopModel_84 (w_R_of (d + 0) hG hr6) rfl rfl d_R_hits_48 (aft_ro ?_)
          refine Ev.at (pc' := 51) rfl (Ev.cong (st' := [.inl (.int r6)]) ?_ rfl rfl)
          refine ev_iload_n (k0 := 3) rfl d_R_hits_51 ?_
          refine ev_icmp_ne (tgt := 59) (by decide) d_R_hits_52 (fun c => ?_) (fun c => ?_)
          · rw [if_neg c] at h
            refine cw_iconst 0 d_R_hits_59 rfl ?_
            have hP := kE _ (Option.some.inj h).symm
            exact ev_ireturn (st := []) rfl rfl d_R_hits_60 (by rw [hP]; exact ⟨rfl, rfl⟩)
          · rw [if_pos c] at h
            refine cw_iconst 1 d_R_hits_55 rfl ?_
            refine ev_goto (tgt := 60) (by decide) d_R_hits_56 ?_
            have hP := kE _ (Option.some.inj h).symm
            exact ev_ireturn (st := []) rfl rfl d_R_hits_60 (by rw [hP]; exact ⟨rfl, rfl⟩)

/-- ProphecyShopModel.happening -/
def s_R_happening_136 (x1 : Int32) (x2 : Int32) (x4 : Int32) (x5 : Int32) (μ : Mem) : Option ((Int32 × Int32 × Mem) ⊕ (Int32 × Mem)) :=
  chk (inb 10 524) (if (μ 40 0 (10 : Int32).toNatClampNeg) ≤ x5 then (some (.inr ((x4, μ)))) else (((f_R_hits x5 x1 x2 μ)).bind (fun r2 => if r2 = 0 then (some (.inl ((x4, x5 + 1, μ)))) else (((f_R_of x5 3 μ)).bind (fun r3 => ((if r3 = 0 then (some (1)) else (some (0)) : Option (Int32))).bind (fun q4 => ((f_R_decides x5 q4 μ)).bind (fun r5 => some (.inl ((x4 + 1, x5 + 1, r5))))))))))
def f_R_happening (x1 : Int32) (x2 : Int32) (μ : Mem) : Option (Int32 × Mem) :=
  ((f_R_isEvent x1 μ)).bind (fun r1 => ((if r1 = 0 then (some (0)) else (((f_R_isPlace x2 μ)).bind (fun r23 => if r23 = 0 then (some (0)) else (some (1)))) : Option (Int32))).bind (fun q2 => ((f_R_right q2 1 μ)).bind (fun r3 => if r3.1 = 0 then (some ((0, r3.2))) else (chk (inb 5 524) (((f_R_noted x1 x2 (r3.2 40 0 (5 : Int32).toNatClampNeg) r3.2)).bind (fun r5 => ((if r5 = 0 then (chk (inb 11 524) (if (60 : Int32) ≤ (r3.2 40 0 (11 : Int32).toNatClampNeg) then (some (0)) else (some (1)))) else (some (0)) : Option (Int32))).bind (fun q6 => ((f_R_right q6 2 r3.2)).bind (fun r7 => if r7.1 = 0 then (some ((0, r7.2))) else (((f_R_changes r7.2)).bind (fun r8 => chk (inb 11 524) (nm (320 + (3 * (r8 40 0 (11 : Int32).toNatClampNeg)) : Int32) (fun v10 => chk (inb v10 524) (nm (st3 r8 40 0 v10.toNatClampNeg x1) (fun μ12 => chk (inb (v10 + 1) 524) (nm (st3 μ12 40 0 (v10 + 1).toNatClampNeg x2) (fun μ14 => chk (inb 5 524) (chk (inb (v10 + 2) 524) (nm (st3 μ14 40 0 (v10 + 2).toNatClampNeg (μ14 40 0 (5 : Int32).toNatClampNeg)) (fun μ17 => chk (inb 11 524) (chk (inb 11 524) (nm (st3 μ17 40 0 (11 : Int32).toNatClampNeg ((μ17 40 0 (11 : Int32).toNatClampNeg) + 1)) (fun μ20 => (it (fun (s : Int32 × Int32 × Mem) => s_R_happening_136 x1 x2 s.1 s.2.1 s.2.2) LIM ((0, 0, μ20))).bind (fun q21 => some ((q21.1, q21.2)))))))))))))))))))))))))
set_option maxRecDepth 100000 in
set_option maxHeartbeats 4000000 in
theorem ws_R_happening_136 {g : GL} {F G : RG} {nx mc ms : Nat} {Post : RO → RM → Prop} (d : Nat) {x1 : Int32} {x2 : Int32} {x4 : Int32} {x5 : Int32} {μ : Mem}   {o : (Int32 × Int32 × Mem) ⊕ (Int32 × Mem)} (hG : LM vr 535 547 μ F G) (h : s_R_happening_136 x1 x2 x4 x5 μ = some o)
    (kC : ∀ s', o = .inl s' → ∀ G, LM vr 535 547 s'.2.2 F G → Ev g (d + 2) m_R_happening 136 [some (.inr (0, off 13 0)), some (.inl (.int x1)), some (.inl (.int x2)), none, some (.inl (.int s'.1)), some (.inl (.int s'.2.1))] [] (G, nx) mc ms Post)
    (kX : ∀ r, o = .inr r → ∀ G, LM vr 535 547 r.2 F G → Ev g (d + 2) m_R_happening 192 [none, none, none, none, some (.inl (.int r.1)), none] [] (G, nx) mc ms Post)
    : Ev g (d + 2) m_R_happening 136 [some (.inr (0, off 13 0)), some (.inl (.int x1)), some (.inl (.int x2)), none, some (.inl (.int x4)), some (.inl (.int x5))] [] (G, nx) mc ms Post := by
  unfold s_R_happening_136 at h
  refine ev_iload (i := 5) rfl d_R_happening_136 ?_
  refine ev_aload_n (k0 := 0) rfl d_R_happening_138 ?_
  refine cv_get9 (.inr (0, off 40 0)) hG v_13 fg_ProphecyShopModel_7_13 rfl rfl d_R_happening_139 ?_
  refine cw_bipush 10 d_R_happening_142 rfl ?_
  obtain ⟨b1, h⟩ := chk_some h
  refine cv_iald hG v_40 rfl rfl b1 rfl d_R_happening_144 ?_
  refine ev_icmp_ge (tgt := 192) (by decide) d_R_happening_145 (fun c => ?_) (fun c => ?_)
  · rw [if_pos c] at h
    exact Ev.sub (.n (.n (.n (.n (.s (.n LSb.z)))))) (kX _ (Option.some.inj h).symm G hG)
  · rw [if_neg c] at h
    refine ev_aload_n (k0 := 0) rfl d_R_happening_148 ?_
    refine ev_iload (i := 5) rfl d_R_happening_149 ?_
    refine ev_iload_n (k0 := 1) rfl d_R_happening_151 ?_
    refine ev_iload_n (k0 := 2) rfl d_R_happening_152 ?_
    obtain ⟨r2, hr2, h⟩ := bind_some9 h
    refine Ev.z9 ?_
    refine cv_V (d := d + 1) (mc1 := 0) (ms1 := 0) (mc := mc) (ms := ms) [.inl (.int x5), .inl (.int x1), .inl (.int x2)] hG v_13 rfl lk_ProphecyShopModel_385 (w_R_hits (d + 0) hG hr2) rfl rfl d_R_happening_153 (aft_ro ?_)
    refine Ev.at (pc' := 156) rfl (Ev.cong (st' := [.inl (.int r2)]) ?_ rfl rfl)
    refine ev_if_ne (tgt := 162) (by decide) d_R_happening_156 (fun c => ?_) (fun c => ?_)
    · rw [if_neg c] at h
      refine ev_aload_n (k0 := 0) rfl d_R_happening_162 ?_
      refine ev_iload (i := 5) rfl d_R_happening_163 ?_
      refine ev_aload_n (k0 := 0) rfl d_R_happening_165 ?_
      refine ev_iload (i := 5) rfl d_R_happening_166 ?_
      refine cw_iconst 3 d_R_happening_168 rfl ?_
      obtain ⟨r3, hr3, h⟩ := bind_some9 h
      refine Ev.z9 ?_
      refine cv_V (d := d + 1) (mc1 := 0) (ms1 := 0) (mc := mc) (ms := ms) [.inl (.int x5), .inl (.int 3)] hG v_13 rfl lk_ProphecyShopModel_84 (w_R_of (d + 1) hG hr3) rfl rfl d_R_happening_169 (aft_ro ?_)
      refine Ev.at (pc' := 172) rfl (Ev.cong (st' := [.inl (.int r3), .inl (.int x5), .inr (0, off 13 0)]) ?_ rfl rfl)
      obtain ⟨q4, hj, h⟩ := bind_some9 h
      have K_q4 : Ev g (d + 2) m_R_happening 180 [some (.inr (0, off 13 0)), some (.inl (.int x1)), some (.inl (.int x2)), none, some (.inl (.int x4)), some (.inl (.int x5))] [.inl (.int q4), .inl (.int x5), .inr (0, off 13 0)] (G, nx) mc ms Post := by
        obtain ⟨r5, hr5, h⟩ := bind_some9 h
        refine Ev.z9 ?_
        refine cv_V (d := d + 1) (mc1 := 0) (ms1 := 0) (mc := mc) (ms := ms) [.inl (.int x5), .inl (.int q4)] hG v_13 rfl lk_ProphecyShopModel_114 (w_R_decides (d + 0) hG hr5) rfl rfl d_R_happening_180 (aft_rw (fun G hG => ?_))
        refine Ev.at (pc' := 183) rfl (Ev.cong (st' := []) ?_ rfl rfl)
        refine cw_iincN 4 1 [some (.inr (0, off 13 0)), some (.inl (.int x1)), some (.inl (.int x2)), none, some (.inl (.int (x4 + 1))), some (.inl (.int x5))] d_R_happening_183 rfl rfl rfl rfl rfl ?_
        refine cw_iincN 5 1 [some (.inr (0, off 13 0)), some (.inl (.int x1)), some (.inl (.int x2)), none, some (.inl (.int (x4 + 1))), some (.inl (.int (x5 + 1)))] d_R_happening_186 rfl rfl rfl rfl rfl ?_
        refine ev_goto (tgt := 136) (by decide) d_R_happening_189 ?_
        exact kC _ (Option.some.inj h).symm G hG
      clear h
      have h := hj
      refine ev_if_ne (tgt := 179) (by decide) d_R_happening_172 (fun c => ?_) (fun c => ?_)
      · rw [if_neg c] at h
        refine cw_iconst 0 d_R_happening_179 rfl ?_
        obtain rfl := Option.some.inj h
        exact K_q4
      · rw [if_pos c] at h
        refine cw_iconst 1 d_R_happening_175 rfl ?_
        refine ev_goto (tgt := 180) (by decide) d_R_happening_176 ?_
        obtain rfl := Option.some.inj h
        exact K_q4
    · rw [if_pos c] at h
      refine ev_goto (tgt := 186) (by decide) d_R_happening_159 ?_
      refine cw_iincN 5 1 [some (.inr (0, off 13 0)), some (.inl (.int x1)), some (.inl (.int x2)), none, some (.inl (.int x4)), some (.inl (.int (x5 + 1)))] d_R_happening_186 rfl rfl rfl rfl rfl ?_
      refine ev_goto (tgt := 136) (by decide) d_R_happening_189 ?_
      exact kC _ (Option.some.inj h).symm G hG
set_option maxRecDepth 100000 in
set_option maxHeartbeats 4000000 in
theorem w_R_happening {g : GL} {F G : RG} {nx : Nat} (d : Nat) {x1 : Int32} {x2 : Int32} {μ : Mem}   {o : Int32 × Mem} (hG : LM vr 535 547 μ F G) (h : f_R_happening x1 x2 μ = some o) : Mt g (d + 2) m_R_happening [.inr (0, off 13 0), .inl (.int x1), .inl (.int x2)] (G, nx) 0 0 (pRW vr 535 547 (rI o.1) o.2 F nx) := by
  unfold f_R_happening at h
  have kE : ∀ v, o = v → pRW vr 535 547 (rI o.1) o.2 F nx = pRW vr 535 547 (rI v.1) v.2 F nx := fun v e => by rw [e]
  refine Mt.of9 [some (.inr (0, off 13 0)), some (.inl (.int x1)), some (.inl (.int x2)), none, none, none] (by decide +kernel) rfl rfl rfl rfl ?_
  refine ev_aload_n (k0 := 0) rfl d_R_happening_0 ?_
  refine ev_aload_n (k0 := 0) rfl d_R_happening_1 ?_
  refine ev_iload_n (k0 := 1) rfl d_R_happening_2 ?_
  obtain ⟨r1, hr1, h⟩ := bind_some9 h
  refine cv_V (d := d + 1) (mc1 := 0) (ms1 := 0) (mc := 0) (ms := 0) [.inl (.int x1)] hG v_13 rfl lk_ProphecyShopModel_330 (w_R_isEvent (d + 0) hG hr1) rfl rfl d_R_happening_3 (aft_ro ?_)
  refine Ev.at (pc' := 6) rfl (Ev.cong (st' := [.inl (.int r1), .inr (0, off 13 0)]) ?_ rfl rfl)
  obtain ⟨q2, hj, h⟩ := bind_some9 h
  have K_q2 : Ev g (d + 2) m_R_happening 22 [some (.inr (0, off 13 0)), some (.inl (.int x1)), some (.inl (.int x2)), none, none, none] [.inl (.int q2), .inr (0, off 13 0)] (G, nx) 0 0 (pRW vr 535 547 (rI o.1) o.2 F nx) := by
    refine cw_iconst 1 d_R_happening_22 rfl ?_
    obtain ⟨r3, hr3, h⟩ := bind_some9 h
    refine cv_V (d := d + 1) (mc1 := 0) (ms1 := 0) (mc := 0) (ms := 0) [.inl (.int q2), .inl (.int 1)] hG v_13 rfl lk_ProphecyShopModel_128 (w_R_right (d + 1) hG hr3) rfl rfl d_R_happening_23 (aft_rw (fun G hG => ?_))
    refine Ev.at (pc' := 26) rfl (Ev.cong (st' := [.inl (.int r3.1)]) ?_ rfl rfl)
    refine ev_if_eq (tgt := 69) (by decide) d_R_happening_26 (fun c => ?_) (fun c => ?_)
    · rw [if_pos c] at h
      refine cw_iconst 0 d_R_happening_69 rfl ?_
      have hP := kE _ (Option.some.inj h).symm
      exact ev_ireturn (st := []) rfl rfl d_R_happening_70 (by rw [hP]; exact ⟨rfl, hG, rfl⟩)
    · rw [if_neg c] at h
      refine ev_aload_n (k0 := 0) rfl d_R_happening_29 ?_
      refine ev_aload_n (k0 := 0) rfl d_R_happening_30 ?_
      refine ev_iload_n (k0 := 1) rfl d_R_happening_31 ?_
      refine ev_iload_n (k0 := 2) rfl d_R_happening_32 ?_
      refine ev_aload_n (k0 := 0) rfl d_R_happening_33 ?_
      refine cv_get9 (.inr (0, off 40 0)) hG v_13 fg_ProphecyShopModel_7_13 rfl rfl d_R_happening_34 ?_
      refine cw_iconst 5 d_R_happening_37 rfl ?_
      obtain ⟨b4, h⟩ := chk_some h
      refine cv_iald hG v_40 rfl rfl b4 rfl d_R_happening_38 ?_
      obtain ⟨r5, hr5, h⟩ := bind_some9 h
      refine cv_V (d := d + 1) (mc1 := 0) (ms1 := 0) (mc := 0) (ms := 0) [.inl (.int x1), .inl (.int x2), .inl (.int (r3.2 40 0 (5 : Int32).toNatClampNeg))] hG v_13 rfl lk_ProphecyShopModel_339 (w_R_noted (d + 0) hG hr5) rfl rfl d_R_happening_39 (aft_ro ?_)
      refine Ev.at (pc' := 42) rfl (Ev.cong (st' := [.inl (.int r5), .inr (0, off 13 0)]) ?_ rfl rfl)
      obtain ⟨q6, hj, h⟩ := bind_some9 h
      have K_q6 : Ev g (d + 2) m_R_happening 62 [some (.inr (0, off 13 0)), some (.inl (.int x1)), some (.inl (.int x2)), none, none, none] [.inl (.int q6), .inr (0, off 13 0)] (G, nx) 0 0 (pRW vr 535 547 (rI o.1) o.2 F nx) := by
        refine cw_iconst 2 d_R_happening_62 rfl ?_
        obtain ⟨r7, hr7, h⟩ := bind_some9 h
        refine cv_V (d := d + 1) (mc1 := 0) (ms1 := 0) (mc := 0) (ms := 0) [.inl (.int q6), .inl (.int 2)] hG v_13 rfl lk_ProphecyShopModel_128 (w_R_right (d + 1) hG hr7) rfl rfl d_R_happening_63 (aft_rw (fun G hG => ?_))
        refine Ev.at (pc' := 66) rfl (Ev.cong (st' := [.inl (.int r7.1)]) ?_ rfl rfl)
        refine ev_if_ne (tgt := 71) (by decide) d_R_happening_66 (fun c => ?_) (fun c => ?_)
        · rw [if_neg c] at h
          refine ev_aload_n (k0 := 0) rfl d_R_happening_71 ?_
          obtain ⟨r8, hr8, h⟩ := bind_some9 h
          refine cv_V (d := d + 1) (mc1 := 0) (ms1 := 0) (mc := 0) (ms := 0) [] hG v_13 rfl lk_ProphecyShopModel_382 (w_R_changes (d + 0) hG hr8) rfl rfl d_R_happening_72 (aft_rw (fun G hG => ?_))
          refine Ev.at (pc' := 75) rfl (Ev.cong (st' := []) ?_ rfl rfl)
          refine cw_sipush 320 d_R_happening_75 rfl ?_
          refine cw_iconst 3 d_R_happening_78 rfl ?_
          refine ev_aload_n (k0 := 0) rfl d_R_happening_79 ?_
          refine cv_get9 (.inr (0, off 40 0)) hG v_13 fg_ProphecyShopModel_7_13 rfl rfl d_R_happening_80 ?_
          refine cw_bipush 11 d_R_happening_83 rfl ?_
          obtain ⟨b9, h⟩ := chk_some h
          refine cv_iald hG v_40 rfl rfl b9 rfl d_R_happening_85 ?_
          refine ev_imul d_R_happening_86 ?_
          refine ev_iadd d_R_happening_87 ?_
          obtain ⟨v10, e_v10, h⟩ := nm_some h
          refine cw_istoreN_n 3 v10 e_v10 [some (.inr (0, off 13 0)), some (.inl (.int x1)), some (.inl (.int x2)), some (.inl (.int v10)), none, none] d_R_happening_88 rfl rfl rfl ?_
          refine ev_aload_n (k0 := 0) rfl d_R_happening_89 ?_
          refine cv_get9 (.inr (0, off 40 0)) hG v_13 fg_ProphecyShopModel_7_13 rfl rfl d_R_happening_90 ?_
          refine Ev.at (pc' := 93) rfl ?_
          refine ev_iload_n (k0 := 3) rfl d_R_happening_93 ?_
          refine ev_iload_n (k0 := 1) rfl d_R_happening_94 ?_
          obtain ⟨b11, h⟩ := chk_some h
          obtain ⟨μ12, e_μ12, h⟩ := nm_some h
          refine cv_iast hG okR v_40 rfl rfl b11 rfl d_R_happening_95 ?_
          intro G hG; rw [← e_μ12] at hG
          refine ev_aload_n (k0 := 0) rfl d_R_happening_96 ?_
          refine cv_get9 (.inr (0, off 40 0)) hG v_13 fg_ProphecyShopModel_7_13 rfl rfl d_R_happening_97 ?_
          refine ev_iload_n (k0 := 3) rfl d_R_happening_100 ?_
          refine cw_iconst 1 d_R_happening_101 rfl ?_
          refine ev_iadd d_R_happening_102 ?_
          refine ev_iload_n (k0 := 2) rfl d_R_happening_103 ?_
          obtain ⟨b13, h⟩ := chk_some h
          obtain ⟨μ14, e_μ14, h⟩ := nm_some h
          refine cv_iast hG okR v_40 rfl rfl b13 rfl d_R_happening_104 ?_
          intro G hG; rw [← e_μ14] at hG
          refine ev_aload_n (k0 := 0) rfl d_R_happening_105 ?_
          refine cv_get9 (.inr (0, off 40 0)) hG v_13 fg_ProphecyShopModel_7_13 rfl rfl d_R_happening_106 ?_
          refine Ev.at (pc' := 109) rfl ?_
          refine ev_iload_n (k0 := 3) rfl d_R_happening_109 ?_
          refine cw_iconst 2 d_R_happening_110 rfl ?_
          refine ev_iadd d_R_happening_111 ?_
          refine ev_aload_n (k0 := 0) rfl d_R_happening_112 ?_
          refine cv_get9 (.inr (0, off 40 0)) hG v_13 fg_ProphecyShopModel_7_13 rfl rfl d_R_happening_113 ?_
          refine cw_iconst 5 d_R_happening_116 rfl ?_
          obtain ⟨b15, h⟩ := chk_some h
          refine cv_iald hG v_40 rfl rfl b15 rfl d_R_happening_117 ?_
          obtain ⟨b16, h⟩ := chk_some h
          obtain ⟨μ17, e_μ17, h⟩ := nm_some h
          refine cv_iast hG okR v_40 rfl rfl b16 rfl d_R_happening_118 ?_
          intro G hG; rw [← e_μ17] at hG
          refine ev_aload_n (k0 := 0) rfl d_R_happening_119 ?_
          refine cv_get9 (.inr (0, off 40 0)) hG v_13 fg_ProphecyShopModel_7_13 rfl rfl d_R_happening_120 ?_
          refine cw_bipush 11 d_R_happening_123 rfl ?_
          refine ev_dup2 rfl rfl d_R_happening_125 ?_
          refine Ev.at (pc' := 126) rfl ?_
          obtain ⟨b18, h⟩ := chk_some h
          refine cv_iald hG v_40 rfl rfl b18 rfl d_R_happening_126 ?_
          refine cw_iconst 1 d_R_happening_127 rfl ?_
          refine ev_iadd d_R_happening_128 ?_
          obtain ⟨b19, h⟩ := chk_some h
          obtain ⟨μ20, e_μ20, h⟩ := nm_some h
          refine cv_iast hG okR v_40 rfl rfl b19 rfl d_R_happening_129 ?_
          intro G hG; rw [← e_μ20] at hG
          refine cw_iconst 0 d_R_happening_130 rfl ?_
          refine cw_istoreN 4 0 rfl [some (.inr (0, off 13 0)), some (.inl (.int x1)), some (.inl (.int x2)), some (.inl (.int v10)), some (.inl (.int 0)), none] d_R_happening_131 rfl rfl rfl ?_
          refine cw_iconst 0 d_R_happening_133 rfl ?_
          refine cw_istoreN 5 0 rfl [some (.inr (0, off 13 0)), some (.inl (.int x1)), some (.inl (.int x2)), some (.inl (.int v10)), some (.inl (.int 0)), some (.inl (.int 0))] d_R_happening_134 rfl rfl rfl ?_
          obtain ⟨q21, hl, h⟩ := bind_some9 h
          refine Ev.sub (ls' := [some (.inr (0, off 13 0)), some (.inl (.int x1)), some (.inl (.int x2)), none, some (.inl (.int 0)), some (.inl (.int 0))]) (.s (.s (.s (.n (.s (.s LSb.z)))))) ?_
          refine it_ev (W := fun (s : Int32 × Int32 × Mem) => ∀ G, LM vr 535 547 s.2.2 F G → Ev g (d + 2) m_R_happening 136 [some (.inr (0, off 13 0)), some (.inl (.int x1)), some (.inl (.int x2)), none, some (.inl (.int s.1)), some (.inl (.int s.2.1))] [] (G, nx) 0 0 (pRW vr 535 547 (rI o.1) o.2 F nx)) (X := fun z => z = q21) rfl (fun s9 o9 hs kC9 kX9 => ?_) LIM _ hl G hG
          intro G hG
          refine ws_R_happening_136 d  hG hs kC9 (fun r_ e G hG => ?_)
          · obtain rfl := (kX9 _ e).symm
            refine ev_iload (i := 4) rfl d_R_happening_192 ?_
            have hP := kE _ (Option.some.inj h).symm
            exact ev_ireturn (st := []) rfl rfl d_R_happening_194 (by rw [hP]; exact ⟨rfl, hG, rfl⟩)
        · rw [if_pos c] at h
          refine cw_iconst 0 d_R_happening_69 rfl ?_
          have hP := kE _ (Option.some.inj h).symm
          exact ev_ireturn (st := []) rfl rfl d_R_happening_70 (by rw [hP]; exact ⟨rfl, hG, rfl⟩)
      clear h
      have h := hj
      refine ev_if_ne (tgt := 61) (by decide) d_R_happening_42 (fun c => ?_) (fun c => ?_)
      · rw [if_neg c] at h
        refine cw_iconst 0 d_R_happening_61 rfl ?_
        obtain rfl := Option.some.inj h
        exact K_q6
      · rw [if_pos c] at h
        refine ev_aload_n (k0 := 0) rfl d_R_happening_45 ?_
        refine cv_get9 (.inr (0, off 40 0)) hG v_13 fg_ProphecyShopModel_7_13 rfl rfl d_R_happening_46 ?_
        refine cw_bipush 11 d_R_happening_49 rfl ?_
        obtain ⟨b22, h⟩ := chk_some h
        refine cv_iald hG v_40 rfl rfl b22 rfl d_R_happening_51 ?_
        refine cw_bipush 60 d_R_happening_52 rfl ?_
        refine ev_icmp_ge (tgt := 61) (by decide) d_R_happening_54 (fun c => ?_) (fun c => ?_)
        · rw [if_pos c] at h
          refine cw_iconst 0 d_R_happening_61 rfl ?_
          obtain rfl := Option.some.inj h
          exact K_q6
        · rw [if_neg c] at h
          refine cw_iconst 1 d_R_happening_57 rfl ?_
          refine ev_goto (tgt := 62) (by decide) d_R_happening_58 ?_
          obtain rfl := Option.some.inj h
          exact K_q6
  clear h
  have h := hj
  refine ev_if_eq (tgt := 21) (by decide) d_R_happening_6 (fun c => ?_) (fun c => ?_)
  · rw [if_pos c] at h
    refine cw_iconst 0 d_R_happening_21 rfl ?_
    obtain rfl := Option.some.inj h
    exact K_q2
  · rw [if_neg c] at h
    refine ev_aload_n (k0 := 0) rfl d_R_happening_9 ?_
    refine ev_iload_n (k0 := 2) rfl d_R_happening_10 ?_
    obtain ⟨r23, hr23, h⟩ := bind_some9 h
    refine cv_V (d := d + 1) (mc1 := 0) (ms1 := 0) (mc := 0) (ms := 0) [.inl (.int x2)] hG v_13 rfl lk_ProphecyShopModel_333 (w_R_isPlace (d + 0) hG hr23) rfl rfl d_R_happening_11 (aft_ro ?_)
    refine Ev.at (pc' := 14) rfl (Ev.cong (st' := [.inl (.int r23), .inr (0, off 13 0)]) ?_ rfl rfl)
    refine ev_if_eq (tgt := 21) (by decide) d_R_happening_14 (fun c => ?_) (fun c => ?_)
    · rw [if_pos c] at h
      refine cw_iconst 0 d_R_happening_21 rfl ?_
      obtain rfl := Option.some.inj h
      exact K_q2
    · rw [if_neg c] at h
      refine cw_iconst 1 d_R_happening_17 rfl ?_
      refine ev_goto (tgt := 22) (by decide) d_R_happening_18 ?_
      obtain rfl := Option.some.inj h
      exact K_q2

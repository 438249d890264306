/-- ProphecyShopModel.sellDenial -/
def f_R_sellDenial (x1 : Int32) (x2 : Int32) (x3 : Int32) (x4 : Int32) (x5 : Int32) (x6 : Int32) (μ : Mem) : Option (Int32 × Mem) :=
  nm (st3 μ 13 0 7 0) (fun μ1 => ((f_R_lengths x4 x5 x6 μ1)).bind (fun r2 => ((f_R_selling x1 x2 x3 2 r2)).bind (fun r3 => some ((r3.1, r3.2)))))
set_option maxRecDepth 100000 in
set_option maxHeartbeats 4000000 in
theorem w_R_sellDenial {g : GL} {F G : RG} {nx : Nat} (d : Nat) {x1 : Int32} {x2 : Int32} {x3 : Int32} {x4 : Int32} {x5 : Int32} {x6 : Int32} {μ : Mem}   {o : Int32 × Mem} (hG : LM vr 535 547 μ F G) (h : f_R_sellDenial x1 x2 x3 x4 x5 x6 μ = some o) : Mt g (d + 3) m_R_sellDenial [.inr (0, off 13 0), .inl (.int x1), .inl (.int x2), .inl (.int x3), .inl (.int x4), .inl (.int x5), .inl (.int x6)] (G, nx) 0 0 (pRW vr 535 547 (rI o.1) o.2 F nx) := by
  unfold f_R_sellDenial at h
  have kE : ∀ v, o = v → pRW vr 535 547 (rI o.1) o.2 F nx = pRW vr 535 547 (rI v.1) v.2 F nx := fun v e => by rw [e]
  refine Mt.of9 [some (.inr (0, off 13 0)), some (.inl (.int x1)), some (.inl (.int x2)), some (.inl (.int x3)), some (.inl (.int x4)), some (.inl (.int x5)), some (.inl (.int x6))] (by decide +kernel) rfl rfl rfl rfl ?_
  refine ev_aload_n (k0 := 0) rfl d_R_sellDenial_0 ?_
  refine cw_iconst 0 d_R_sellDenial_1 rfl ?_
  obtain ⟨μ1, e_μ1, h⟩ := nm_some h
  refine cv_put (.inl (.int 0)) 0 hG okR v_13 fl_ProphecyShopModel_73_13 rfl rfl okv_int d_R_sellDenial_2 ?_
  intro G hG; rw [← e_μ1] at hG
  refine ev_aload_n (k0 := 0) rfl d_R_sellDenial_5 ?_
  refine ev_iload (i := 4) rfl d_R_sellDenial_6 ?_
  refine ev_iload (i := 5) rfl d_R_sellDenial_8 ?_
  refine ev_iload (i := 6) rfl d_R_sellDenial_10 ?_
  obtain ⟨r2, hr2, h⟩ := bind_some9 h
  refine cv_V (d := d + 2) (mc1 := 0) (ms1 := 0) (mc := 0) (ms := 0) [.inl (.int x4), .inl (.int x5), .inl (.int x6)] hG v_13 rfl lk_ProphecyShopModel_292 (w_R_lengths (d + 2) hG hr2) rfl rfl d_R_sellDenial_12 (aft_rw (fun G hG => ?_))
  refine Ev.at (pc' := 15) rfl (Ev.cong (st' := []) ?_ rfl rfl)
  refine ev_aload_n (k0 := 0) rfl d_R_sellDenial_15 ?_
  refine ev_iload_n (k0 := 1) rfl d_R_sellDenial_16 ?_
  refine ev_iload_n (k0 := 2) rfl d_R_sellDenial_17 ?_
  refine ev_iload_n (k0 := 3) rfl d_R_sellDenial_18 ?_
  refine cw_iconst 2 d_R_sellDenial_19 rfl ?_
  obtain ⟨r3, hr3, h⟩ := bind_some9 h
  refine cv_V (d := d + 2) (mc1 := 0) (ms1 := 0) (mc := 0) (ms := 0) [.inl (.int x1), .inl (.int x2), .inl (.int x3), .inl (.int 2)] hG v_13 rfl lk_ProphecyShopModel_295 (w_R_selling (d + 0) hG hr3) rfl rfl d_R_sellDenial_20 (aft_rw (fun G hG => ?_))
  refine Ev.at (pc' := 23) rfl (Ev.cong (st' := [.inl (.int r3.1)]) ?_ rfl rfl)
  have hP := kE _ (Option.some.inj h).symm
  exact ev_ireturn (st := []) rfl rfl d_R_sellDenial_23 (by rw [hP]; exact ⟨rfl, hG, rfl⟩)

/-- ProphecyShopModel.sellPlain -/
def f_R_sellPlain (x1 : Int32) (x2 : Int32) (x3 : Int32) (x4 : Int32) (x5 : Int32) (x6 : Int32) (μ : Mem) : Option (Int32 × Mem) :=
  nm (st3 μ 13 0 7 0) (fun μ1 => ((f_R_lengths x4 x5 x6 μ1)).bind (fun r2 => ((f_R_selling x1 x2 x3 0 r2)).bind (fun r3 => some ((r3.1, r3.2)))))
set_option maxRecDepth 100000 in
set_option maxHeartbeats 4000000 in
theorem w_R_sellPlain {g : GL} {F G : RG} {nx : Nat} (d : Nat) {x1 : Int32} {x2 : Int32} {x3 : Int32} {x4 : Int32} {x5 : Int32} {x6 : Int32} {μ : Mem}   {o : Int32 × Mem} (hG : LM vr 535 547 μ F G) (h : f_R_sellPlain x1 x2 x3 x4 x5 x6 μ = some o) : Mt g (d + 3) m_R_sellPlain [.inr (0, off 13 0), .inl (.int x1), .inl (.int x2), .inl (.int x3), .inl (.int x4), .inl (.int x5), .inl (.int x6)] (G, nx) 0 0 (pRW vr 535 547 (rI o.1) o.2 F nx) := by
  unfold f_R_sellPlain at h
  have kE : ∀ v, o = v → pRW vr 535 547 (rI o.1) o.2 F nx = pRW vr 535 547 (rI v.1) v.2 F nx := fun v e => by rw [e]
  refine Mt.of9 [some (.inr (0, off 13 0)), some (.inl (.int x1)), some (.inl (.int x2)), some (.inl (.int x3)), some (.inl (.int x4)), some (.inl (.int x5)), some (.inl (.int x6))] (by decide +kernel) rfl rfl rfl rfl ?_
  refine ev_aload_n (k0 := 0) rfl d_R_sellPlain_0 ?_
  refine cw_iconst 0 d_R_sellPlain_1 rfl ?_
  obtain ⟨μ1, e_μ1, h⟩ := nm_some h
  refine cv_put (.inl (.int 0)) 0 hG okR v_13 fl_ProphecyShopModel_73_13 rfl rfl okv_int d_R_sellPlain_2 ?_
  intro G hG; rw [← e_μ1] at hG
  refine ev_aload_n (k0 := 0) rfl d_R_sellPlain_5 ?_
  refine ev_iload (i := 4) rfl d_R_sellPlain_6 ?_
  refine ev_iload (i := 5) rfl d_R_sellPlain_8 ?_
  refine ev_iload (i := 6) rfl d_R_sellPlain_10 ?_
  obtain ⟨r2, hr2, h⟩ := bind_some9 h
  refine cv_V (d := d + 2) (mc1 := 0) (ms1 := 0) (mc := 0) (ms := 0) [.inl (.int x4), .inl (.int x5), .inl (.int x6)] hG v_13 rfl lk_ProphecyShopModel_292 (w_R_lengths (d + 2) hG hr2) rfl rfl d_R_sellPlain_12 (aft_rw (fun G hG => ?_))
  refine Ev.at (pc' := 15) rfl (Ev.cong (st' := []) ?_ rfl rfl)
  refine ev_aload_n (k0 := 0) rfl d_R_sellPlain_15 ?_
  refine ev_iload_n (k0 := 1) rfl d_R_sellPlain_16 ?_
  refine ev_iload_n (k0 := 2) rfl d_R_sellPlain_17 ?_
  refine ev_iload_n (k0 := 3) rfl d_R_sellPlain_18 ?_
  refine cw_iconst 0 d_R_sellPlain_19 rfl ?_
  obtain ⟨r3, hr3, h⟩ := bind_some9 h
  refine cv_V (d := d + 2) (mc1 := 0) (ms1 := 0) (mc := 0) (ms := 0) [.inl (.int x1), .inl (.int x2), .inl (.int x3), .inl (.int 0)] hG v_13 rfl lk_ProphecyShopModel_295 (w_R_selling (d + 0) hG hr3) rfl rfl d_R_sellPlain_20 (aft_rw (fun G hG => ?_))
  refine Ev.at (pc' := 23) rfl (Ev.cong (st' := [.inl (.int r3.1)]) ?_ rfl rfl)
  have hP := kE _ (Option.some.inj h).symm
  exact ev_ireturn (st := []) rfl rfl d_R_sellPlain_23 (by rw [hP]; exact ⟨rfl, hG, rfl⟩)

/-- ProphecyShopModel.sellVague -/
def f_R_sellVague (x1 : Int32) (x2 : Int32) (x3 : Int32) (x4 : Int32) (x5 : Int32) (μ : Mem) : Option (Int32 × Mem) :=
  nm (st3 μ 13 0 7 0) (fun μ1 => ((f_R_lengths x3 x4 x5 μ1)).bind (fun r2 => ((f_R_selling x1 x2 (-1) 1 r2)).bind (fun r3 => some ((r3.1, r3.2)))))
set_option maxRecDepth 100000 in
set_option maxHeartbeats 4000000 in
theorem w_R_sellVague {g : GL} {F G : RG} {nx : Nat} (d : Nat) {x1 : Int32} {x2 : Int32} {x3 : Int32} {x4 : Int32} {x5 : Int32} {μ : Mem}   {o : Int32 × Mem} (hG : LM vr 535 547 μ F G) (h : f_R_sellVague x1 x2 x3 x4 x5 μ = some o) : Mt g (d + 3) m_R_sellVague [.inr (0, off 13 0), .inl (.int x1), .inl (.int x2), .inl (.int x3), .inl (.int x4), .inl (.int x5)] (G, nx) 0 0 (pRW vr 535 547 (rI o.1) o.2 F nx) := by
  unfold f_R_sellVague at h
  have kE : ∀ v, o = v → pRW vr 535 547 (rI o.1) o.2 F nx = pRW vr 535 547 (rI v.1) v.2 F nx := fun v e => by rw [e]
  refine Mt.of9 [some (.inr (0, off 13 0)), some (.inl (.int x1)), some (.inl (.int x2)), some (.inl (.int x3)), some (.inl (.int x4)), some (.inl (.int x5))] (by decide +kernel) rfl rfl rfl rfl ?_
  refine ev_aload_n (k0 := 0) rfl d_R_sellVague_0 ?_
  refine cw_iconst 0 d_R_sellVague_1 rfl ?_
  obtain ⟨μ1, e_μ1, h⟩ := nm_some h
  refine cv_put (.inl (.int 0)) 0 hG okR v_13 fl_ProphecyShopModel_73_13 rfl rfl okv_int d_R_sellVague_2 ?_
  intro G hG; rw [← e_μ1] at hG
  refine ev_aload_n (k0 := 0) rfl d_R_sellVague_5 ?_
  refine ev_iload_n (k0 := 3) rfl d_R_sellVague_6 ?_
  refine ev_iload (i := 4) rfl d_R_sellVague_7 ?_
  refine ev_iload (i := 5) rfl d_R_sellVague_9 ?_
  obtain ⟨r2, hr2, h⟩ := bind_some9 h
  refine cv_V (d := d + 2) (mc1 := 0) (ms1 := 0) (mc := 0) (ms := 0) [.inl (.int x3), .inl (.int x4), .inl (.int x5)] hG v_13 rfl lk_ProphecyShopModel_292 (w_R_lengths (d + 2) hG hr2) rfl rfl d_R_sellVague_11 (aft_rw (fun G hG => ?_))
  refine Ev.at (pc' := 14) rfl (Ev.cong (st' := []) ?_ rfl rfl)
  refine ev_aload_n (k0 := 0) rfl d_R_sellVague_14 ?_
  refine ev_iload_n (k0 := 1) rfl d_R_sellVague_15 ?_
  refine ev_iload_n (k0 := 2) rfl d_R_sellVague_16 ?_
  refine cw_iconst (-1) d_R_sellVague_17 rfl ?_
  refine cw_iconst 1 d_R_sellVague_18 rfl ?_
  obtain ⟨r3, hr3, h⟩ := bind_some9 h
  refine cv_V (d := d + 2) (mc1 := 0) (ms1 := 0) (mc := 0) (ms := 0) [.inl (.int x1), .inl (.int x2), .inl (.int ((-1))), .inl (.int 1)] hG v_13 rfl lk_ProphecyShopModel_295 (w_R_selling (d + 0) hG hr3) rfl rfl d_R_sellVague_19 (aft_rw (fun G hG => ?_))
  refine Ev.at (pc' := 22) rfl (Ev.cong (st' := [.inl (.int r3.1)]) ?_ rfl rfl)
  have hP := kE _ (Option.some.inj h).symm
  exact ev_ireturn (st := []) rfl rfl d_R_sellVague_22 (by rw [hP]; exact ⟨rfl, hG, rfl⟩)

/-- ProphecyShopModel.stateOf -/
def f_R_stateOf (x1 : Int32) (μ : Mem) : Option (Int32 × Mem) :=
  ((f_R_asked x1 7 μ)).bind (fun r1 => some ((r1.1, r1.2)))
set_option maxRecDepth 100000 in
set_option maxHeartbeats 4000000 in
theorem w_R_stateOf {g : GL} {F G : RG} {nx : Nat} (d : Nat) {x1 : Int32} {μ : Mem}   {o : Int32 × Mem} (hG : LM vr 535 547 μ F G) (h : f_R_stateOf x1 μ = some o) : Mt g (d + 3) m_R_stateOf [.inr (0, off 13 0), .inl (.int x1)] (G, nx) 0 0 (pRW vr 535 547 (rI o.1) o.2 F nx) := by
  unfold f_R_stateOf at h
  have kE : ∀ v, o = v → pRW vr 535 547 (rI o.1) o.2 F nx = pRW vr 535 547 (rI v.1) v.2 F nx := fun v e => by rw [e]
  refine Mt.of9 [some (.inr (0, off 13 0)), some (.inl (.int x1))] (by decide +kernel) rfl rfl rfl rfl ?_
  refine ev_aload_n (k0 := 0) rfl d_R_stateOf_0 ?_
  refine ev_iload_n (k0 := 1) rfl d_R_stateOf_1 ?_
  refine cw_bipush 7 d_R_stateOf_2 rfl ?_
  obtain ⟨r1, hr1, h⟩ := bind_some9 h
  refine cv_V (d := d + 2) (mc1 := 0) (ms1 := 0) (mc := 0) (ms := 0) [.inl (.int x1), .inl (.int 7)] hG v_13 rfl lk_ProphecyShopModel_349 (w_R_asked (d + 0) hG hr1) rfl rfl d_R_stateOf_4 (aft_rw (fun G hG => ?_))
  refine Ev.at (pc' := 7) rfl (Ev.cong (st' := [.inl (.int r1.1)]) ?_ rfl rfl)
  have hP := kE _ (Option.some.inj h).symm
  exact ev_ireturn (st := []) rfl rfl d_R_stateOf_7 (by rw [hP]; exact ⟨rfl, hG, rfl⟩)

/-- ProphecyShopModel.takesText -/
def s_R_takesText_2 (w1 : Nat) (x2 : Int32) (μ : Mem) : Option ((Int32 × Mem) ⊕ (Mem)) :=
  if (sLen w1) ≤ x2 then (some (.inr μ)) else (chk (inb x2 (sTx w1).length) (chk (inb x2 800) (nm (st3 μ 46 0 x2.toNatClampNeg (sAt w1 x2)) (fun μ3 => some (.inl ((x2 + 1, μ3)))))))
def f_R_takesText (w1 : Nat) (μ : Mem) : Option (Mem) :=
  (it (fun (s : Int32 × Mem) => s_R_takesText_2 w1 s.1 s.2) LIM ((0, μ))).bind (fun q1 => nm (st3 q1 13 0 9 (sLen w1)) (fun μ2 => ((f_R_starts μ2)).bind (fun r3 => ((f_R_readsSetup r3)).bind (fun r4 => nm (st3 r4 13 0 9 0) (fun μ5 => some μ5)))))
set_option maxRecDepth 100000 in
set_option maxHeartbeats 4000000 in
theorem ws_R_takesText_2 {g : GL} {F G : RG} {nx mc ms : Nat} {Post : RO → RM → Prop} (d : Nat) {w1 : Nat} {x2 : Int32} {μ : Mem} (hw1 : w1 < 40) (hSG : SG g) {o : (Int32 × Mem) ⊕ (Mem)} (hG : LM vr 535 547 μ F G) (h : s_R_takesText_2 w1 x2 μ = some o)
    (kC : ∀ s', o = .inl s' → ∀ G, LM vr 535 547 s'.2 F G → Ev g (d + 9) m_R_takesText 2 [some (.inr (0, off 13 0)), some (.inr (1, w1)), some (.inl (.int s'.1))] [] (G, nx) mc ms Post)
    (kX : ∀ r, o = .inr r → ∀ G, LM vr 535 547 r F G → Ev g (d + 9) m_R_takesText 27 [some (.inr (0, off 13 0)), some (.inr (1, w1)), none] [] (G, nx) mc ms Post)
    : Ev g (d + 9) m_R_takesText 2 [some (.inr (0, off 13 0)), some (.inr (1, w1)), some (.inl (.int x2))] [] (G, nx) mc ms Post := by
  unfold s_R_takesText_2 at h
  refine ev_iload_n (k0 := 2) rfl d_R_takesText_2 ?_
  refine ev_aload_n (k0 := 1) rfl d_R_takesText_3 ?_
  refine cv_slen (d := d + 3) hSG hw1 lk_ProphecyShopModel_54 rfl d_R_takesText_4 ?_
  refine ev_icmp_ge (tgt := 27) (by decide) d_R_takesText_7 (fun c => ?_) (fun c => ?_)
  · rw [if_pos c] at h
    exact Ev.sub (.s (.s (.n LSb.z))) (kX _ (Option.some.inj h).symm G hG)
  · rw [if_neg c] at h
    refine ev_aload_n (k0 := 0) rfl d_R_takesText_10 ?_
    refine cv_get9 (.inr (0, off 46 0)) hG v_13 fg_ProphecyShopModel_29_13 rfl rfl d_R_takesText_11 ?_
    refine ev_iload_n (k0 := 2) rfl d_R_takesText_14 ?_
    refine ev_aload_n (k0 := 1) rfl d_R_takesText_15 ?_
    refine ev_iload_n (k0 := 2) rfl d_R_takesText_16 ?_
    obtain ⟨b1, h⟩ := chk_some h
    refine cv_sat (d := d + 3) hSG hw1 b1 lk_ProphecyShopModel_60 rfl d_R_takesText_17 ?_
    obtain ⟨b2, h⟩ := chk_some h
    obtain ⟨μ3, e_μ3, h⟩ := nm_some h
    refine cv_iast hG okR v_46 rfl rfl b2 rfl d_R_takesText_20 ?_
    intro G hG; rw [← e_μ3] at hG
    refine cw_iincN 2 1 [some (.inr (0, off 13 0)), some (.inr (1, w1)), some (.inl (.int (x2 + 1)))] d_R_takesText_21 rfl rfl rfl rfl rfl ?_
    refine ev_goto (tgt := 2) (by decide) d_R_takesText_24 ?_
    exact kC _ (Option.some.inj h).symm G hG
set_option maxRecDepth 100000 in
set_option maxHeartbeats 4000000 in
theorem w_R_takesText {g : GL} {F G : RG} {nx : Nat} (d : Nat) {w1 : Nat} {μ : Mem} (hw1 : w1 < 40) (hSG : SG g) {o : Mem} (hG : LM vr 535 547 μ F G) (h : f_R_takesText w1 μ = some o) : Mt g (d + 9) m_R_takesText [.inr (0, off 13 0), .inr (1, w1)] (G, nx) 0 0 (pRW vr 535 547 rV o F nx) := by
  unfold f_R_takesText at h
  have kE : ∀ v, o = v → pRW vr 535 547 rV o F nx = pRW vr 535 547 rV v F nx := fun v e => by rw [e]
  refine Mt.of9 [some (.inr (0, off 13 0)), some (.inr (1, w1)), none] (by decide +kernel) rfl rfl rfl rfl ?_
  refine cw_iconst 0 d_R_takesText_0 rfl ?_
  refine cw_istoreN_n 2 0 rfl [some (.inr (0, off 13 0)), some (.inr (1, w1)), some (.inl (.int 0))] d_R_takesText_1 rfl rfl rfl ?_
  obtain ⟨q1, hl, h⟩ := bind_some9 h
  refine it_ev (W := fun (s : Int32 × Mem) => ∀ G, LM vr 535 547 s.2 F G → Ev g (d + 9) m_R_takesText 2 [some (.inr (0, off 13 0)), some (.inr (1, w1)), some (.inl (.int s.1))] [] (G, nx) 0 0 (pRW vr 535 547 rV o F nx)) (X := fun z => z = q1) rfl (fun s9 o9 hs kC9 kX9 => ?_) LIM _ hl G hG
  intro G hG
  refine ws_R_takesText_2 d hw1 hSG hG hs kC9 (fun r_ e G hG => ?_)
  · obtain rfl := (kX9 _ e).symm
    refine ev_aload_n (k0 := 0) rfl d_R_takesText_27 ?_
    refine ev_aload_n (k0 := 1) rfl d_R_takesText_28 ?_
    refine cv_slen (d := d + 3) hSG hw1 lk_ProphecyShopModel_54 rfl d_R_takesText_29 ?_
    obtain ⟨μ2, e_μ2, h⟩ := nm_some h
    refine cv_put (.inl (.int (sLen w1))) (sLen w1) hG okR v_13 fl_ProphecyShopModel_64_13 rfl rfl okv_int d_R_takesText_32 ?_
    intro G hG; rw [← e_μ2] at hG
    refine ev_aload_n (k0 := 0) rfl d_R_takesText_35 ?_
    obtain ⟨r3, hr3, h⟩ := bind_some9 h
    refine cv_V (d := d + 8) (mc1 := 0) (ms1 := 0) (mc := 0) (ms := 0) [] hG v_13 rfl lk_ProphecyShopModel_67 (w_R_starts (d + 6) hG hr3) rfl rfl d_R_takesText_36 (aft_rw (fun G hG => ?_))
    refine Ev.at (pc' := 39) rfl (Ev.cong (st' := []) ?_ rfl rfl)
    refine ev_aload_n (k0 := 0) rfl d_R_takesText_39 ?_
    obtain ⟨r4, hr4, h⟩ := bind_some9 h
    refine cv_V (d := d + 8) (mc1 := 0) (ms1 := 0) (mc := 0) (ms := 0) [] hG v_13 rfl lk_ProphecyShopModel_70 (w_R_readsSetup (d + 0) hSG hG hr4) rfl rfl d_R_takesText_40 (aft_rw (fun G hG => ?_))
    refine Ev.at (pc' := 43) rfl (Ev.cong (st' := []) ?_ rfl rfl)
    refine ev_aload_n (k0 := 0) rfl d_R_takesText_43 ?_
    refine cw_iconst 0 d_R_takesText_44 rfl ?_
    obtain ⟨μ5, e_μ5, h⟩ := nm_some h
    refine cv_put (.inl (.int 0)) 0 hG okR v_13 fl_ProphecyShopModel_64_13 rfl rfl okv_int d_R_takesText_45 ?_
    intro G hG; rw [← e_μ5] at hG
    have hP := kE _ (Option.some.inj h).symm
    exact ev_return (st := []) rfl d_R_takesText_48 (by rw [hP]; exact ⟨rfl, hG, rfl⟩)

/-- ProphecyShopModel.thrown -/
def f_R_thrown  (μ : Mem) : Option (Int32) :=
  some (μ 13 0 7)
set_option maxRecDepth 100000 in
set_option maxHeartbeats 4000000 in
theorem w_R_thrown {g : GL} {F G : RG} {nx : Nat} (d : Nat)  {μ : Mem}   {o : Int32} (hG : LM vr 535 547 μ F G) (h : f_R_thrown  μ = some o) : Mt g (d + 0) m_R_thrown [.inr (0, off 13 0)] (G, nx) 0 0 (pRO (rI o) (G, nx)) := by
  unfold f_R_thrown at h
  have kE : ∀ v, o = v → pRO (rI o) (G, nx) = pRO (rI v) (G, nx) := fun v e => by rw [e]
  refine Mt.of9 [some (.inr (0, off 13 0))] (by decide +kernel) rfl rfl rfl rfl ?_
  refine ev_aload_n (k0 := 0) rfl d_R_thrown_0 ?_
  refine cv_get9 (.inl (.int (μ 13 0 7))) hG v_13 fg_ProphecyShopModel_73_13 rfl rfl d_R_thrown_1 ?_
  have hP := kE _ (Option.some.inj h).symm
  exact ev_ireturn (st := []) rfl rfl d_R_thrown_4 (by rw [hP]; exact ⟨rfl, rfl⟩)

/-- ProphecyShopModel.timesHappened -/
def f_R_timesHappened (x1 : Int32) (x2 : Int32) (μ : Mem) : Option (Int32 × Mem) :=
  ((f_R_finds x1 x2 μ)).bind (fun r1 => if r1.1 = 0 then (some ((0, r1.2))) else (((f_R_noted x1 x2 (-1) r1.2)).bind (fun r2 => some ((r2, r1.2)))))
set_option maxRecDepth 100000 in
set_option maxHeartbeats 4000000 in
theorem w_R_timesHappened {g : GL} {F G : RG} {nx : Nat} (d : Nat) {x1 : Int32} {x2 : Int32} {μ : Mem}   {o : Int32 × Mem} (hG : LM vr 535 547 μ F G) (h : f_R_timesHappened x1 x2 μ = some o) : Mt g (d + 3) m_R_timesHappened [.inr (0, off 13 0), .inl (.int x1), .inl (.int x2)] (G, nx) 0 0 (pRW vr 535 547 (rI o.1) o.2 F nx) := by
  unfold f_R_timesHappened at h
  have kE : ∀ v, o = v → pRW vr 535 547 (rI o.1) o.2 F nx = pRW vr 535 547 (rI v.1) v.2 F nx := fun v e => by rw [e]
  refine Mt.of9 [some (.inr (0, off 13 0)), some (.inl (.int x1)), some (.inl (.int x2))] (by decide +kernel) rfl rfl rfl rfl ?_
  refine ev_aload_n (k0 := 0) rfl d_R_timesHappened_0 ?_
  refine ev_iload_n (k0 := 1) rfl d_R_timesHappened_1 ?_
  refine ev_iload_n (k0 := 2) rfl d_R_timesHappened_2 ?_
  obtain ⟨r1, hr1, h⟩ := bind_some9 h
  refine cv_V (d := d + 2) (mc1 := 0) (ms1 := 0) (mc := 0) (ms := 0) [.inl (.int x1), .inl (.int x2)] hG v_13 rfl lk_ProphecyShopModel_336 (w_R_finds (d + 0) hG hr1) rfl rfl d_R_timesHappened_3 (aft_rw (fun G hG => ?_))
  refine Ev.at (pc' := 6) rfl (Ev.cong (st' := [.inl (.int r1.1)]) ?_ rfl rfl)
  refine ev_if_eq (tgt := 19) (by decide) d_R_timesHappened_6 (fun c => ?_) (fun c => ?_)
  · rw [if_pos c] at h
    refine cw_iconst 0 d_R_timesHappened_19 rfl ?_
    have hP := kE _ (Option.some.inj h).symm
    exact ev_ireturn (st := []) rfl rfl d_R_timesHappened_20 (by rw [hP]; exact ⟨rfl, hG, rfl⟩)
  · rw [if_neg c] at h
    refine ev_aload_n (k0 := 0) rfl d_R_timesHappened_9 ?_
    refine ev_iload_n (k0 := 1) rfl d_R_timesHappened_10 ?_
    refine ev_iload_n (k0 := 2) rfl d_R_timesHappened_11 ?_
    refine cw_iconst (-1) d_R_timesHappened_12 rfl ?_
    obtain ⟨r2, hr2, h⟩ := bind_some9 h
    refine cv_V (d := d + 2) (mc1 := 0) (ms1 := 0) (mc := 0) (ms := 0) [.inl (.int x1), .inl (.int x2), .inl (.int ((-1)))] hG v_13 rfl lk_ProphecyShopModel_339 (w_R_noted (d + 1) hG hr2) rfl rfl d_R_timesHappened_13 (aft_ro ?_)
    refine Ev.at (pc' := 16) rfl (Ev.cong (st' := [.inl (.int r2)]) ?_ rfl rfl)
    refine ev_goto (tgt := 20) (by decide) d_R_timesHappened_16 ?_
    have hP := kE _ (Option.some.inj h).symm
    exact ev_ireturn (st := []) rfl rfl d_R_timesHappened_20 (by rw [hP]; exact ⟨rfl, hG, rfl⟩)

/-- ProphecyShopModel.truncate -/
def f_R_truncate (x1 : Int32) (μ : Mem) : Option (Int32 × Mem) :=
  nm (st3 μ 13 0 7 0) (fun μ1 => ((f_R_in x1 0 (μ1 13 0 9) μ1)).bind (fun r2 => ((f_R_right r2 1 μ1)).bind (fun r3 => if r3.1 = 0 then (some ((0, r3.2))) else (nm ((r3.2 13 0 9) - x1 : Int32) (fun v4 => nm (st3 r3.2 13 0 9 x1) (fun μ5 => some ((v4, μ5))))))))
set_option maxRecDepth 100000 in
set_option maxHeartbeats 4000000 in
theorem w_R_truncate {g : GL} {F G : RG} {nx : Nat} (d : Nat) {x1 : Int32} {μ : Mem}   {o : Int32 × Mem} (hG : LM vr 535 547 μ F G) (h : f_R_truncate x1 μ = some o) : Mt g (d + 1) m_R_truncate [.inr (0, off 13 0), .inl (.int x1)] (G, nx) 0 0 (pRW vr 535 547 (rI o.1) o.2 F nx) := by
  unfold f_R_truncate at h
  have kE : ∀ v, o = v → pRW vr 535 547 (rI o.1) o.2 F nx = pRW vr 535 547 (rI v.1) v.2 F nx := fun v e => by rw [e]
  refine Mt.of9 [some (.inr (0, off 13 0)), some (.inl (.int x1)), none] (by decide +kernel) rfl rfl rfl rfl ?_
  refine ev_aload_n (k0 := 0) rfl d_R_truncate_0 ?_
  refine cw_iconst 0 d_R_truncate_1 rfl ?_
  obtain ⟨μ1, e_μ1, h⟩ := nm_some h
  refine cv_put (.inl (.int 0)) 0 hG okR v_13 fl_ProphecyShopModel_73_13 rfl rfl okv_int d_R_truncate_2 ?_
  intro G hG; rw [← e_μ1] at hG
  refine ev_aload_n (k0 := 0) rfl d_R_truncate_5 ?_
  refine ev_iload_n (k0 := 1) rfl d_R_truncate_6 ?_
  refine cw_iconst 0 d_R_truncate_7 rfl ?_
  refine ev_aload_n (k0 := 0) rfl d_R_truncate_8 ?_
  refine cv_get9 (.inl (.int (μ1 13 0 9))) hG v_13 fg_ProphecyShopModel_64_13 rfl rfl d_R_truncate_9 ?_
  obtain ⟨r2, hr2, h⟩ := bind_some9 h
  refine cw_S (d := d + 0) (mc1 := 0) (ms1 := 0) (mc := 0) (ms := 0) [.inl (.int x1), .inl (.int 0), .inl (.int (μ1 13 0 9))] lk_ProphecyShopModel_76 (w_R_in (d + 0) hG hr2) rfl rfl d_R_truncate_12 (aft_ro ?_)
  refine Ev.at (pc' := 15) rfl (Ev.cong (st' := [.inl (.int r2), .inr (0, off 13 0)]) ?_ rfl rfl)
  refine cw_iconst 1 d_R_truncate_15 rfl ?_
  obtain ⟨r3, hr3, h⟩ := bind_some9 h
  refine cv_V (d := d + 0) (mc1 := 0) (ms1 := 0) (mc := 0) (ms := 0) [.inl (.int r2), .inl (.int 1)] hG v_13 rfl lk_ProphecyShopModel_128 (w_R_right (d + 0) hG hr3) rfl rfl d_R_truncate_16 (aft_rw (fun G hG => ?_))
  refine Ev.at (pc' := 19) rfl (Ev.cong (st' := [.inl (.int r3.1)]) ?_ rfl rfl)
  refine ev_if_ne (tgt := 24) (by decide) d_R_truncate_19 (fun c => ?_) (fun c => ?_)
  · rw [if_neg c] at h
    refine ev_aload_n (k0 := 0) rfl d_R_truncate_24 ?_
    refine cv_get9 (.inl (.int (r3.2 13 0 9))) hG v_13 fg_ProphecyShopModel_64_13 rfl rfl d_R_truncate_25 ?_
    refine ev_iload_n (k0 := 1) rfl d_R_truncate_28 ?_
    refine ev_isub d_R_truncate_29 ?_
    obtain ⟨v4, e_v4, h⟩ := nm_some h
    refine cw_istoreN_n 2 v4 e_v4 [some (.inr (0, off 13 0)), some (.inl (.int x1)), some (.inl (.int v4))] d_R_truncate_30 rfl rfl rfl ?_
    refine ev_aload_n (k0 := 0) rfl d_R_truncate_31 ?_
    refine ev_iload_n (k0 := 1) rfl d_R_truncate_32 ?_
    obtain ⟨μ5, e_μ5, h⟩ := nm_some h
    refine cv_put (.inl (.int x1)) x1 hG okR v_13 fl_ProphecyShopModel_64_13 rfl rfl okv_int d_R_truncate_33 ?_
    intro G hG; rw [← e_μ5] at hG
    refine ev_iload_n (k0 := 2) rfl d_R_truncate_36 ?_
    have hP := kE _ (Option.some.inj h).symm
    exact ev_ireturn (st := []) rfl rfl d_R_truncate_37 (by rw [hP]; exact ⟨rfl, hG, rfl⟩)
  · rw [if_pos c] at h
    refine cw_iconst 0 d_R_truncate_22 rfl ?_
    have hP := kE _ (Option.some.inj h).symm
    exact ev_ireturn (st := []) rfl rfl d_R_truncate_23 (by rw [hP]; exact ⟨rfl, hG, rfl⟩)

/-- ProphecyShopModel.truthShare -/
def f_R_truthShare  (μ : Mem) : Option (UInt32 × Mem) :=
  nm (st3 μ 13 0 7 0) (fun μ1 => chk (inb 10 524) (((f_R_manyIn 0 μ1)).bind (fun r3 => nm ((μ1 40 0 (10 : Int32).toNatClampNeg) - r3 : Int32) (fun v4 => if v4 = 0 then (some ((FP.fconst0, μ1))) else (((f_R_manyIn 1 μ1)).bind (fun r5 => chk (okF9 (FP.fdiv (FP.i2f r5) (FP.i2f v4))) (some ((FP.fdiv (FP.i2f r5) (FP.i2f v4), μ1)))))))))
set_option maxRecDepth 100000 in
set_option maxHeartbeats 4000000 in
theorem w_R_truthShare {g : GL} {F G : RG} {nx : Nat} (d : Nat)  {μ : Mem}   {o : UInt32 × Mem} (hG : LM vr 535 547 μ F G) (h : f_R_truthShare  μ = some o) : Mt g (d + 2) m_R_truthShare [.inr (0, off 13 0)] (G, nx) 0 0 (pRW vr 535 547 (rF o.1) o.2 F nx) := by
  unfold f_R_truthShare at h
  have kE : ∀ v, o = v → pRW vr 535 547 (rF o.1) o.2 F nx = pRW vr 535 547 (rF v.1) v.2 F nx := fun v e => by rw [e]
  refine Mt.of9 [some (.inr (0, off 13 0)), none] (by decide +kernel) rfl rfl rfl rfl ?_
  refine ev_aload_n (k0 := 0) rfl d_R_truthShare_0 ?_
  refine cw_iconst 0 d_R_truthShare_1 rfl ?_
  obtain ⟨μ1, e_μ1, h⟩ := nm_some h
  refine cv_put (.inl (.int 0)) 0 hG okR v_13 fl_ProphecyShopModel_73_13 rfl rfl okv_int d_R_truthShare_2 ?_
  intro G hG; rw [← e_μ1] at hG
  refine ev_aload_n (k0 := 0) rfl d_R_truthShare_5 ?_
  refine cv_get9 (.inr (0, off 40 0)) hG v_13 fg_ProphecyShopModel_7_13 rfl rfl d_R_truthShare_6 ?_
  refine cw_bipush 10 d_R_truthShare_9 rfl ?_
  obtain ⟨b2, h⟩ := chk_some h
  refine cv_iald hG v_40 rfl rfl b2 rfl d_R_truthShare_11 ?_
  refine ev_aload_n (k0 := 0) rfl d_R_truthShare_12 ?_
  refine cw_iconst 0 d_R_truthShare_13 rfl ?_
  obtain ⟨r3, hr3, h⟩ := bind_some9 h
  refine cv_V (d := d + 1) (mc1 := 0) (ms1 := 0) (mc := 0) (ms := 0) [.inl (.int 0)] hG v_13 rfl lk_ProphecyShopModel_358 (w_R_manyIn (d + 0) hG hr3) rfl rfl d_R_truthShare_14 (aft_ro ?_)
  refine Ev.at (pc' := 17) rfl (Ev.cong (st' := [.inl (.int r3), .inl (.int (μ1 40 0 (10 : Int32).toNatClampNeg))]) ?_ rfl rfl)
  refine ev_isub d_R_truthShare_17 ?_
  obtain ⟨v4, e_v4, h⟩ := nm_some h
  refine cw_istoreN_n 1 v4 e_v4 [some (.inr (0, off 13 0)), some (.inl (.int v4))] d_R_truthShare_18 rfl rfl rfl ?_
  refine ev_iload_n (k0 := 1) rfl d_R_truthShare_19 ?_
  refine ev_if_ne (tgt := 27) (by decide) d_R_truthShare_20 (fun c => ?_) (fun c => ?_)
  · rw [if_neg c] at h
    refine ev_aload_n (k0 := 0) rfl d_R_truthShare_27 ?_
    refine cw_iconst 1 d_R_truthShare_28 rfl ?_
    obtain ⟨r5, hr5, h⟩ := bind_some9 h
    refine cv_V (d := d + 1) (mc1 := 0) (ms1 := 0) (mc := 0) (ms := 0) [.inl (.int 1)] hG v_13 rfl lk_ProphecyShopModel_358 (w_R_manyIn (d + 0) hG hr5) rfl rfl d_R_truthShare_29 (aft_ro ?_)
    refine Ev.at (pc' := 32) rfl (Ev.cong (st' := [.inl (.int r5)]) ?_ rfl rfl)
    refine ev_i2f d_R_truthShare_32 ?_
    refine ev_iload_n (k0 := 1) rfl d_R_truthShare_33 ?_
    refine ev_i2f d_R_truthShare_34 ?_
    obtain ⟨b6, h⟩ := chk_some h
    refine ev_fdiv (okF9_n b6) d_R_truthShare_35 ?_
    have hP := kE _ (Option.some.inj h).symm
    exact ev_freturn (st := []) rfl d_R_truthShare_36 (by rw [hP]; exact ⟨rfl, hG, rfl⟩)
  · rw [if_pos c] at h
    refine ev_fconst0 d_R_truthShare_23 ?_
    refine ev_goto (tgt := 36) (by decide) d_R_truthShare_24 ?_
    have hP := kE _ (Option.some.inj h).symm
    exact ev_freturn (st := []) rfl d_R_truthShare_36 (by rw [hP]; exact ⟨rfl, hG, rfl⟩)

/-- ProphecyShopModel.undo -/
def s_R_undo_39  (x1 : Int32) (μ : Mem) : Option ((Int32 × Mem) ⊕ (Mem)) :=
  if (524 : Int32) ≤ x1 then (some (.inr μ)) else (chk (inb ((524 * (μ 13 0 6)) + x1) 4192) (chk (inb x1 524) (nm (st3 μ 40 0 x1.toNatClampNeg (μ 43 0 ((524 * (μ 13 0 6)) + x1).toNatClampNeg)) (fun μ3 => some (.inl ((x1 + 1, μ3)))))))
def f_R_undo  (μ : Mem) : Option (Int32 × Mem) :=
  nm (st3 μ 13 0 7 0) (fun μ1 => ((if (μ1 13 0 6) ≤ 0 then (some (0)) else (some (1)) : Option (Int32))).bind (fun q2 => ((f_R_right q2 1 μ1)).bind (fun r3 => if r3.1 = 0 then (some ((0, r3.2))) else (nm (st3 r3.2 13 0 6 ((r3.2 13 0 6) - 1)) (fun μ4 => (it (fun (s : Int32 × Mem) => s_R_undo_39 s.1 s.2) LIM ((0, μ4))).bind (fun q5 => some ((q5 13 0 6, q5))))))))
set_option maxRecDepth 100000 in
set_option maxHeartbeats 4000000 in
theorem ws_R_undo_39 {g : GL} {F G : RG} {nx mc ms : Nat} {Post : RO → RM → Prop} (d : Nat)  {x1 : Int32} {μ : Mem}   {o : (Int32 × Mem) ⊕ (Mem)} (hG : LM vr 535 547 μ F G) (h : s_R_undo_39  x1 μ = some o)
    (kC : ∀ s', o = .inl s' → ∀ G, LM vr 535 547 s'.2 F G → Ev g (d + 1) m_R_undo 39 [some (.inr (0, off 13 0)), some (.inl (.int s'.1))] [] (G, nx) mc ms Post)
    (kX : ∀ r, o = .inr r → ∀ G, LM vr 535 547 r F G → Ev g (d + 1) m_R_undo 73 [some (.inr (0, off 13 0)), none] [] (G, nx) mc ms Post)
    : Ev g (d + 1) m_R_undo 39 [some (.inr (0, off 13 0)), some (.inl (.int x1))] [] (G, nx) mc ms Post := by
  unfold s_R_undo_39 at h
  refine ev_iload_n (k0 := 1) rfl d_R_undo_39 ?_
  refine cw_sipush 524 d_R_undo_40 rfl ?_
  refine ev_icmp_ge (tgt := 73) (by decide) d_R_undo_43 (fun c => ?_) (fun c => ?_)
  · rw [if_pos c] at h
    exact Ev.sub (.s (.n LSb.z)) (kX _ (Option.some.inj h).symm G hG)
  · rw [if_neg c] at h
    refine ev_aload_n (k0 := 0) rfl d_R_undo_46 ?_
    refine cv_get9 (.inr (0, off 40 0)) hG v_13 fg_ProphecyShopModel_7_13 rfl rfl d_R_undo_47 ?_
    refine ev_iload_n (k0 := 1) rfl d_R_undo_50 ?_
    refine ev_aload_n (k0 := 0) rfl d_R_undo_51 ?_
    refine cv_get9 (.inr (0, off 43 0)) hG v_13 fg_ProphecyShopModel_19_13 rfl rfl d_R_undo_52 ?_
    refine cw_sipush 524 d_R_undo_55 rfl ?_
    refine ev_aload_n (k0 := 0) rfl d_R_undo_58 ?_
    refine cv_get9 (.inl (.int (μ 13 0 6))) hG v_13 fg_ProphecyShopModel_233_13 rfl rfl d_R_undo_59 ?_
    refine ev_imul d_R_undo_62 ?_
    refine ev_iload_n (k0 := 1) rfl d_R_undo_63 ?_
    refine ev_iadd d_R_undo_64 ?_
    refine Ev.at (pc' := 65) rfl ?_
    obtain ⟨b1, h⟩ := chk_some h
    refine cv_iald hG v_43 rfl rfl b1 rfl d_R_undo_65 ?_
    obtain ⟨b2, h⟩ := chk_some h
    obtain ⟨μ3, e_μ3, h⟩ := nm_some h
    refine cv_iast hG okR v_40 rfl rfl b2 rfl d_R_undo_66 ?_
    intro G hG; rw [← e_μ3] at hG
    refine cw_iincN 1 1 [some (.inr (0, off 13 0)), some (.inl (.int (x1 + 1)))] d_R_undo_67 rfl rfl rfl rfl rfl ?_
    refine ev_goto (tgt := 39) (by decide) d_R_undo_70 ?_
    exact kC _ (Option.some.inj h).symm G hG
set_option maxRecDepth 100000 in
set_option maxHeartbeats 4000000 in
theorem w_R_undo {g : GL} {F G : RG} {nx : Nat} (d : Nat)  {μ : Mem}   {o : Int32 × Mem} (hG : LM vr 535 547 μ F G) (h : f_R_undo  μ = some o) : Mt g (d + 1) m_R_undo [.inr (0, off 13 0)] (G, nx) 0 0 (pRW vr 535 547 (rI o.1) o.2 F nx) := by
  unfold f_R_undo at h
  have kE : ∀ v, o = v → pRW vr 535 547 (rI o.1) o.2 F nx = pRW vr 535 547 (rI v.1) v.2 F nx := fun v e => by rw [e]
  refine Mt.of9 [some (.inr (0, off 13 0)), none] (by decide +kernel) rfl rfl rfl rfl ?_
  refine ev_aload_n (k0 := 0) rfl d_R_undo_0 ?_
  refine cw_iconst 0 d_R_undo_1 rfl ?_
  obtain ⟨μ1, e_μ1, h⟩ := nm_some h
  refine cv_put (.inl (.int 0)) 0 hG okR v_13 fl_ProphecyShopModel_73_13 rfl rfl okv_int d_R_undo_2 ?_
  intro G hG; rw [← e_μ1] at hG
  refine ev_aload_n (k0 := 0) rfl d_R_undo_5 ?_
  refine ev_aload_n (k0 := 0) rfl d_R_undo_6 ?_
  refine cv_get9 (.inl (.int (μ1 13 0 6))) hG v_13 fg_ProphecyShopModel_233_13 rfl rfl d_R_undo_7 ?_
  obtain ⟨q2, hj, h⟩ := bind_some9 h
  have K_q2 : Ev g (d + 1) m_R_undo 18 [some (.inr (0, off 13 0)), none] [.inl (.int q2), .inr (0, off 13 0)] (G, nx) 0 0 (pRW vr 535 547 (rI o.1) o.2 F nx) := by
    refine cw_iconst 1 d_R_undo_18 rfl ?_
    obtain ⟨r3, hr3, h⟩ := bind_some9 h
    refine cv_V (d := d + 0) (mc1 := 0) (ms1 := 0) (mc := 0) (ms := 0) [.inl (.int q2), .inl (.int 1)] hG v_13 rfl lk_ProphecyShopModel_128 (w_R_right (d + 0) hG hr3) rfl rfl d_R_undo_19 (aft_rw (fun G hG => ?_))
    refine Ev.at (pc' := 22) rfl (Ev.cong (st' := [.inl (.int r3.1)]) ?_ rfl rfl)
    refine ev_if_ne (tgt := 27) (by decide) d_R_undo_22 (fun c => ?_) (fun c => ?_)
    · rw [if_neg c] at h
      refine ev_aload_n (k0 := 0) rfl d_R_undo_27 ?_
      refine ev_dup rfl d_R_undo_28 ?_
      refine cv_get9 (.inl (.int (r3.2 13 0 6))) hG v_13 fg_ProphecyShopModel_233_13 rfl rfl d_R_undo_29 ?_
      refine cw_iconst 1 d_R_undo_32 rfl ?_
      refine ev_isub d_R_undo_33 ?_
      obtain ⟨μ4, e_μ4, h⟩ := nm_some h
      refine cv_put (.inl (.int ((r3.2 13 0 6) - 1))) ((r3.2 13 0 6) - 1) hG okR v_13 fl_ProphecyShopModel_233_13 rfl rfl okv_int d_R_undo_34 ?_
      intro G hG; rw [← e_μ4] at hG
      refine cw_iconst 0 d_R_undo_37 rfl ?_
      refine cw_istoreN_n 1 0 rfl [some (.inr (0, off 13 0)), some (.inl (.int 0))] d_R_undo_38 rfl rfl rfl ?_
      obtain ⟨q5, hl, h⟩ := bind_some9 h
      refine it_ev (W := fun (s : Int32 × Mem) => ∀ G, LM vr 535 547 s.2 F G → Ev g (d + 1) m_R_undo 39 [some (.inr (0, off 13 0)), some (.inl (.int s.1))] [] (G, nx) 0 0 (pRW vr 535 547 (rI o.1) o.2 F nx)) (X := fun z => z = q5) rfl (fun s9 o9 hs kC9 kX9 => ?_) LIM _ hl G hG
      intro G hG
      refine ws_R_undo_39 d  hG hs kC9 (fun r_ e G hG => ?_)
      · obtain rfl := (kX9 _ e).symm
        refine ev_aload_n (k0 := 0) rfl d_R_undo_73 ?_
        refine cv_get9 (.inl (.int (q5 13 0 6))) hG v_13 fg_ProphecyShopModel_233_13 rfl rfl d_R_undo_74 ?_
        have hP := kE _ (Option.some.inj h).symm
        exact ev_ireturn (st := []) rfl rfl d_R_undo_77 (by rw [hP]; exact ⟨rfl, hG, rfl⟩)
    · rw [if_pos c] at h
      refine cw_iconst 0 d_R_undo_25 rfl ?_
      have hP := kE _ (Option.some.inj h).symm
      exact ev_ireturn (st := []) rfl rfl d_R_undo_26 (by rw [hP]; exact ⟨rfl, hG, rfl⟩)
  clear h
  have h := hj
  refine ev_if_le (tgt := 17) (by decide) d_R_undo_10 (fun c => ?_) (fun c => ?_)
  · rw [if_pos c] at h
    refine cw_iconst 0 d_R_undo_17 rfl ?_
    obtain rfl := Option.some.inj h
    exact K_q2
  · rw [if_neg c] at h
    refine cw_iconst 1 d_R_undo_13 rfl ?_
    refine ev_goto (tgt := 18) (by decide) d_R_undo_14 ?_
    obtain rfl := Option.some.inj h
    exact K_q2

/-- ProphecyShopModel.undoCount -/
def f_R_undoCount  (μ : Mem) : Option (Int32 × Mem) :=
  nm (st3 μ 13 0 7 0) (fun μ1 => some ((μ1 13 0 6, μ1)))
set_option maxRecDepth 100000 in
set_option maxHeartbeats 4000000 in
theorem w_R_undoCount {g : GL} {F G : RG} {nx : Nat} (d : Nat)  {μ : Mem}   {o : Int32 × Mem} (hG : LM vr 535 547 μ F G) (h : f_R_undoCount  μ = some o) : Mt g (d + 0) m_R_undoCount [.inr (0, off 13 0)] (G, nx) 0 0 (pRW vr 535 547 (rI o.1) o.2 F nx) := by
  unfold f_R_undoCount at h
  have kE : ∀ v, o = v → pRW vr 535 547 (rI o.1) o.2 F nx = pRW vr 535 547 (rI v.1) v.2 F nx := fun v e => by rw [e]
  refine Mt.of9 [some (.inr (0, off 13 0))] (by decide +kernel) rfl rfl rfl rfl ?_
  refine ev_aload_n (k0 := 0) rfl d_R_undoCount_0 ?_
  refine cw_iconst 0 d_R_undoCount_1 rfl ?_
  obtain ⟨μ1, e_μ1, h⟩ := nm_some h
  refine cv_put (.inl (.int 0)) 0 hG okR v_13 fl_ProphecyShopModel_73_13 rfl rfl okv_int d_R_undoCount_2 ?_
  intro G hG; rw [← e_μ1] at hG
  refine ev_aload_n (k0 := 0) rfl d_R_undoCount_5 ?_
  refine cv_get9 (.inl (.int (μ1 13 0 6))) hG v_13 fg_ProphecyShopModel_233_13 rfl rfl d_R_undoCount_6 ?_
  have hP := kE _ (Option.some.inj h).symm
  exact ev_ireturn (st := []) rfl rfl d_R_undoCount_9 (by rw [hP]; exact ⟨rfl, hG, rfl⟩)

/-- ProphecyShopModel.writes -/
def f_R_writes (x1 : Int32) (μ : Mem) : Option (Mem) :=
  chk (inb (μ 13 0 28) 200) (nm (st3 μ 49 0 (μ 13 0 28).toNatClampNeg x1) (fun μ2 => nm (st3 μ2 13 0 28 ((μ2 13 0 28) + 1)) (fun μ3 => some μ3)))
set_option maxRecDepth 100000 in
set_option maxHeartbeats 4000000 in
theorem w_R_writes {g : GL} {F G : RG} {nx : Nat} (d : Nat) {x1 : Int32} {μ : Mem}   {o : Mem} (hG : LM vr 535 547 μ F G) (h : f_R_writes x1 μ = some o) : Mt g (d + 0) m_R_writes [.inr (0, off 13 0), .inl (.int x1)] (G, nx) 0 0 (pRW vr 535 547 rV o F nx) := by
  unfold f_R_writes at h
  have kE : ∀ v, o = v → pRW vr 535 547 rV o F nx = pRW vr 535 547 rV v F nx := fun v e => by rw [e]
  refine Mt.of9 [some (.inr (0, off 13 0)), some (.inl (.int x1))] (by decide +kernel) rfl rfl rfl rfl ?_
  refine ev_aload_n (k0 := 0) rfl d_R_writes_0 ?_
  refine cv_get9 (.inr (0, off 49 0)) hG v_13 fg_ProphecyShopModel_42_13 rfl rfl d_R_writes_1 ?_
  refine ev_aload_n (k0 := 0) rfl d_R_writes_4 ?_
  refine cv_get9 (.inl (.int (μ 13 0 28))) hG v_13 fg_ProphecyShopModel_388_13 rfl rfl d_R_writes_5 ?_
  refine ev_iload_n (k0 := 1) rfl d_R_writes_8 ?_
  obtain ⟨b1, h⟩ := chk_some h
  obtain ⟨μ2, e_μ2, h⟩ := nm_some h
  refine cv_iast hG okR v_49 rfl rfl b1 rfl d_R_writes_9 ?_
  intro G hG; rw [← e_μ2] at hG
  refine ev_aload_n (k0 := 0) rfl d_R_writes_10 ?_
  refine ev_dup rfl d_R_writes_11 ?_
  refine cv_get9 (.inl (.int (μ2 13 0 28))) hG v_13 fg_ProphecyShopModel_388_13 rfl rfl d_R_writes_12 ?_
  refine cw_iconst 1 d_R_writes_15 rfl ?_
  refine ev_iadd d_R_writes_16 ?_
  refine Ev.at (pc' := 17) rfl ?_
  obtain ⟨μ3, e_μ3, h⟩ := nm_some h
  refine cv_put (.inl (.int ((μ2 13 0 28) + 1))) ((μ2 13 0 28) + 1) hG okR v_13 fl_ProphecyShopModel_388_13 rfl rfl okv_int d_R_writes_17 ?_
  intro G hG; rw [← e_μ3] at hG
  have hP := kE _ (Option.some.inj h).symm
  exact ev_return (st := []) rfl d_R_writes_20 (by rw [hP]; exact ⟨rfl, hG, rfl⟩)

/-- ProphecyShopModel.writesName -/
def s_R_writesName_2 (x1 : Int32) (x2 : Int32) (μ : Mem) : Option ((Int32) ⊕ (Int32)) :=
  if (x1 / 27) < x2 then (some (.inr x2)) else (nm (x2 * 27 : Int32) (fun v1 => some (.inl v1)))
def s_R_writesName_20 (x1 : Int32) (x3 : Int32) (μ : Mem) : Option ((Int32 × Mem) ⊕ (Mem)) :=
  if x3 ≤ 0 then (some (.inr μ)) else (chk (decide (¬ x3 = 0)) (((f_R_writes (96 + ((x1 / x3) - (x1 / x3) / 27 * 27)) μ)).bind (fun r2 => nm (x3 / 27 : Int32) (fun v3 => some (.inl ((v3, r2)))))))
def f_R_writesName (x1 : Int32) (μ : Mem) : Option (Mem) :=
  (it (fun (s : Int32) => s_R_writesName_2 x1 s μ) LIM 1).bind (fun q1 => (it (fun (s : Int32 × Mem) => s_R_writesName_20 x1 s.1 s.2) LIM ((q1, μ))).bind (fun q2 => some q2))
set_option maxRecDepth 100000 in
set_option maxHeartbeats 4000000 in
theorem ws_R_writesName_2 {g : GL} {F G : RG} {nx mc ms : Nat} {Post : RO → RM → Prop} (d : Nat) {x1 : Int32} {x2 : Int32} {μ : Mem}   {o : (Int32) ⊕ (Int32)} (hG : LM vr 535 547 μ F G) (h : s_R_writesName_2 x1 x2 μ = some o)
    (kC : ∀ s', o = .inl s' → Ev g (d + 1) m_R_writesName 2 [some (.inr (0, off 13 0)), some (.inl (.int x1)), some (.inl (.int s')), none] [] (G, nx) mc ms Post)
    (kX : ∀ r, o = .inr r → Ev g (d + 1) m_R_writesName 18 [some (.inr (0, off 13 0)), some (.inl (.int x1)), some (.inl (.int r)), none] [] (G, nx) mc ms Post)
    : Ev g (d + 1) m_R_writesName 2 [some (.inr (0, off 13 0)), some (.inl (.int x1)), some (.inl (.int x2)), none] [] (G, nx) mc ms Post := by
  unfold s_R_writesName_2 at h
  refine ev_iload_n (k0 := 2) rfl d_R_writesName_2 ?_
  refine ev_iload_n (k0 := 1) rfl d_R_writesName_3 ?_
  refine cw_bipush 27 d_R_writesName_4 rfl ?_
  refine ev_idiv (by decide) d_R_writesName_6 ?_
  refine ev_icmp_gt (tgt := 18) (by decide) d_R_writesName_7 (fun c => ?_) (fun c => ?_)
  · rw [if_pos c] at h
    exact kX _ (Option.some.inj h).symm
  · rw [if_neg c] at h
    refine ev_iload_n (k0 := 2) rfl d_R_writesName_10 ?_
    refine cw_bipush 27 d_R_writesName_11 rfl ?_
    refine ev_imul d_R_writesName_13 ?_
    obtain ⟨v1, e_v1, h⟩ := nm_some h
    refine cw_istoreN_n 2 v1 e_v1 [some (.inr (0, off 13 0)), some (.inl (.int x1)), some (.inl (.int v1)), none] d_R_writesName_14 rfl rfl rfl ?_
    refine ev_goto (tgt := 2) (by decide) d_R_writesName_15 ?_
    exact kC _ (Option.some.inj h).symm
set_option maxRecDepth 100000 in
set_option maxHeartbeats 4000000 in
theorem ws_R_writesName_20 {g : GL} {F G : RG} {nx mc ms : Nat} {Post : RO → RM → Prop} (d : Nat) {x1 : Int32} {x3 : Int32} {μ : Mem}   {o : (Int32 × Mem) ⊕ (Mem)} (hG : LM vr 535 547 μ F G) (h : s_R_writesName_20 x1 x3 μ = some o)
    (kC : ∀ s', o = .inl s' → ∀ G, LM vr 535 547 s'.2 F G → Ev g (d + 1) m_R_writesName 20 [some (.inr (0, off 13 0)), some (.inl (.int x1)), none, some (.inl (.int s'.1))] [] (G, nx) mc ms Post)
    (kX : ∀ r, o = .inr r → ∀ G, LM vr 535 547 r F G → Ev g (d + 1) m_R_writesName 45 [none, none, none, none] [] (G, nx) mc ms Post)
    : Ev g (d + 1) m_R_writesName 20 [some (.inr (0, off 13 0)), some (.inl (.int x1)), none, some (.inl (.int x3))] [] (G, nx) mc ms Post := by
  unfold s_R_writesName_20 at h
  refine ev_iload_n (k0 := 3) rfl d_R_writesName_20 ?_
  refine ev_if_le (tgt := 45) (by decide) d_R_writesName_21 (fun c => ?_) (fun c => ?_)
  · rw [if_pos c] at h
    exact Ev.sub (.n (.n (.n (.n LSb.z)))) (kX _ (Option.some.inj h).symm G hG)
  · rw [if_neg c] at h
    refine ev_aload_n (k0 := 0) rfl d_R_writesName_24 ?_
    refine cw_bipush 96 d_R_writesName_25 rfl ?_
    refine ev_iload_n (k0 := 1) rfl d_R_writesName_27 ?_
    refine ev_iload_n (k0 := 3) rfl d_R_writesName_28 ?_
    obtain ⟨b1, h⟩ := chk_some h
    refine ev_idiv (of_decide_eq_true b1) d_R_writesName_29 ?_
    refine cw_bipush 27 d_R_writesName_30 rfl ?_
    refine ev_irem (by decide) d_R_writesName_32 ?_
    refine ev_iadd d_R_writesName_33 ?_
    obtain ⟨r2, hr2, h⟩ := bind_some9 h
    refine Ev.z9 ?_
    refine cv_V (d := d + 0) (mc1 := 0) (ms1 := 0) (mc := mc) (ms := ms) [.inl (.int (96 + ((x1 / x3) - (x1 / x3) / 27 * 27)))] hG v_13 rfl lk_ProphecyShopModel_391 (w_R_writes (d + 0) hG hr2) rfl rfl d_R_writesName_34 (aft_rw (fun G hG => ?_))
    refine Ev.at (pc' := 37) rfl (Ev.cong (st' := []) ?_ rfl rfl)
    refine ev_iload_n (k0 := 3) rfl d_R_writesName_37 ?_
    refine cw_bipush 27 d_R_writesName_38 rfl ?_
    refine ev_idiv (by decide) d_R_writesName_40 ?_
    obtain ⟨v3, e_v3, h⟩ := nm_some h
    refine cw_istoreN_n 3 v3 e_v3 [some (.inr (0, off 13 0)), some (.inl (.int x1)), none, some (.inl (.int v3))] d_R_writesName_41 rfl rfl rfl ?_
    refine ev_goto (tgt := 20) (by decide) d_R_writesName_42 ?_
    exact kC _ (Option.some.inj h).symm G hG
set_option maxRecDepth 100000 in
set_option maxHeartbeats 4000000 in
theorem w_R_writesName {g : GL} {F G : RG} {nx : Nat} (d : Nat) {x1 : Int32} {μ : Mem}   {o : Mem} (hG : LM vr 535 547 μ F G) (h : f_R_writesName x1 μ = some o) : Mt g (d + 1) m_R_writesName [.inr (0, off 13 0), .inl (.int x1)] (G, nx) 0 0 (pRW vr 535 547 rV o F nx) := by
  unfold f_R_writesName at h
  have kE : ∀ v, o = v → pRW vr 535 547 rV o F nx = pRW vr 535 547 rV v F nx := fun v e => by rw [e]
  refine Mt.of9 [some (.inr (0, off 13 0)), some (.inl (.int x1)), none, none] (by decide +kernel) rfl rfl rfl rfl ?_
  refine cw_iconst 1 d_R_writesName_0 rfl ?_
  refine cw_istoreN_n 2 1 rfl [some (.inr (0, off 13 0)), some (.inl (.int x1)), some (.inl (.int 1)), none] d_R_writesName_1 rfl rfl rfl ?_
  obtain ⟨q1, hl, h⟩ := bind_some9 h
  refine it_ev (W := fun (s : Int32) => Ev g (d + 1) m_R_writesName 2 [some (.inr (0, off 13 0)), some (.inl (.int x1)), some (.inl (.int s)), none] [] (G, nx) 0 0 (pRW vr 535 547 rV o F nx)) (X := fun z => z = q1) rfl (fun s9 o9 hs kC9 kX9 => ?_) LIM _ hl
  refine ws_R_writesName_2 d  hG hs kC9 (fun r_ e => ?_)
  · obtain rfl := (kX9 _ e).symm
    refine ev_iload_n (k0 := 2) rfl d_R_writesName_18 ?_
    refine cw_istoreN_n 3 q1 rfl [some (.inr (0, off 13 0)), some (.inl (.int x1)), some (.inl (.int q1)), some (.inl (.int q1))] d_R_writesName_19 rfl rfl rfl ?_
    obtain ⟨q2, hl, h⟩ := bind_some9 h
    refine Ev.sub (ls' := [some (.inr (0, off 13 0)), some (.inl (.int x1)), none, some (.inl (.int q1))]) (.s (.s (.n (.s LSb.z)))) ?_
    refine it_ev (W := fun (s : Int32 × Mem) => ∀ G, LM vr 535 547 s.2 F G → Ev g (d + 1) m_R_writesName 20 [some (.inr (0, off 13 0)), some (.inl (.int x1)), none, some (.inl (.int s.1))] [] (G, nx) 0 0 (pRW vr 535 547 rV o F nx)) (X := fun z => z = q2) rfl (fun s9 o9 hs kC9 kX9 => ?_) LIM _ hl G hG
    intro G hG
    refine ws_R_writesName_20 d  hG hs kC9 (fun r_ e G hG => ?_)
    · obtain rfl := (kX9 _ e).symm
      have hP := kE _ (Option.some.inj h).symm
      exact ev_return (st := []) rfl d_R_writesName_45 (by rw [hP]; exact ⟨rfl, hG, rfl⟩)

/-- ProphecyShopModel.writesNumber -/
def s_R_writesNumber_4  (x2 : Int32) (x3 : Int32) (μ : Mem) : Option ((Int32 × Int32 × Mem) ⊕ (Int32 × Mem)) :=
  chk (inb x3 8) (nm (st3 μ 50 0 x3.toNatClampNeg (48 + (x2 - x2 / 10 * 10))) (fun μ2 => nm (x2 / 10 : Int32) (fun v3 => if (0 : Int32) < v3 then (some (.inl ((v3, x3 + 1, μ2)))) else (some (.inr ((x3 + 1, μ2)))))))
def s_R_writesNumber_34  (x4 : Int32) (μ : Mem) : Option ((Int32 × Mem) ⊕ (Mem)) :=
  if x4 < 0 then (some (.inr μ)) else (chk (inb x4 8) (((f_R_writes (μ 50 0 x4.toNatClampNeg) μ)).bind (fun r2 => some (.inl ((x4 + (-1), r2))))))
def f_R_writesNumber (x1 : Int32) (μ : Mem) : Option (Mem) :=
  (it (fun (s : Int32 × Int32 × Mem) => s_R_writesNumber_4 s.1 s.2.1 s.2.2) LIM ((x1, 0, μ))).bind (fun q1 => nm (q1.1 - 1 : Int32) (fun v2 => (it (fun (s : Int32 × Mem) => s_R_writesNumber_34 s.1 s.2) LIM ((v2, q1.2))).bind (fun q3 => some q3)))
set_option maxRecDepth 100000 in
set_option maxHeartbeats 4000000 in
theorem ws_R_writesNumber_4 {g : GL} {F G : RG} {nx mc ms : Nat} {Post : RO → RM → Prop} (d : Nat)  {x2 : Int32} {x3 : Int32} {μ : Mem}   {o : (Int32 × Int32 × Mem) ⊕ (Int32 × Mem)} (hG : LM vr 535 547 μ F G) (h : s_R_writesNumber_4  x2 x3 μ = some o)
    (kC : ∀ s', o = .inl s' → ∀ G, LM vr 535 547 s'.2.2 F G → Ev g (d + 1) m_R_writesNumber 4 [some (.inr (0, off 13 0)), none, some (.inl (.int s'.1)), some (.inl (.int s'.2.1)), none] [] (G, nx) mc ms Post)
    (kX : ∀ r, o = .inr r → ∀ G, LM vr 535 547 r.2 F G → Ev g (d + 1) m_R_writesNumber 29 [some (.inr (0, off 13 0)), none, none, some (.inl (.int r.1)), none] [] (G, nx) mc ms Post)
    : Ev g (d + 1) m_R_writesNumber 4 [some (.inr (0, off 13 0)), none, some (.inl (.int x2)), some (.inl (.int x3)), none] [] (G, nx) mc ms Post := by
  unfold s_R_writesNumber_4 at h
  refine ev_aload_n (k0 := 0) rfl d_R_writesNumber_4 ?_
  refine cv_get9 (.inr (0, off 50 0)) hG v_13 fg_ProphecyShopModel_45_13 rfl rfl d_R_writesNumber_5 ?_
  refine ev_iload_n (k0 := 3) rfl d_R_writesNumber_8 ?_
  refine cw_bipush 48 d_R_writesNumber_9 rfl ?_
  refine ev_iload_n (k0 := 2) rfl d_R_writesNumber_11 ?_
  refine cw_bipush 10 d_R_writesNumber_12 rfl ?_
  refine ev_irem (by decide) d_R_writesNumber_14 ?_
  refine ev_iadd d_R_writesNumber_15 ?_
  obtain ⟨b1, h⟩ := chk_some h
  obtain ⟨μ2, e_μ2, h⟩ := nm_some h
  refine cv_iast hG okR v_50 rfl rfl b1 rfl d_R_writesNumber_16 ?_
  intro G hG; rw [← e_μ2] at hG
  refine ev_iload_n (k0 := 2) rfl d_R_writesNumber_17 ?_
  refine cw_bipush 10 d_R_writesNumber_18 rfl ?_
  refine Ev.at (pc' := 20) rfl ?_
  refine ev_idiv (by decide) d_R_writesNumber_20 ?_
  obtain ⟨v3, e_v3, h⟩ := nm_some h
  refine cw_istoreN_n 2 v3 e_v3 [some (.inr (0, off 13 0)), none, some (.inl (.int v3)), some (.inl (.int x3)), none] d_R_writesNumber_21 rfl rfl rfl ?_
  refine cw_iincN 3 1 [some (.inr (0, off 13 0)), none, some (.inl (.int v3)), some (.inl (.int (x3 + 1))), none] d_R_writesNumber_22 rfl rfl rfl rfl rfl ?_
  refine ev_iload_n (k0 := 2) rfl d_R_writesNumber_25 ?_
  refine ev_if_gt (tgt := 4) (by decide) d_R_writesNumber_26 (fun c => ?_) (fun c => ?_)
  · rw [if_pos c] at h
    exact kC _ (Option.some.inj h).symm G hG
  · rw [if_neg c] at h
    exact Ev.sub (.s (.n (.n (.s (.n LSb.z))))) (kX _ (Option.some.inj h).symm G hG)
set_option maxRecDepth 100000 in
set_option maxHeartbeats 4000000 in
theorem ws_R_writesNumber_34 {g : GL} {F G : RG} {nx mc ms : Nat} {Post : RO → RM → Prop} (d : Nat)  {x4 : Int32} {μ : Mem}   {o : (Int32 × Mem) ⊕ (Mem)} (hG : LM vr 535 547 μ F G) (h : s_R_writesNumber_34  x4 μ = some o)
    (kC : ∀ s', o = .inl s' → ∀ G, LM vr 535 547 s'.2 F G → Ev g (d + 1) m_R_writesNumber 34 [some (.inr (0, off 13 0)), none, none, none, some (.inl (.int s'.1))] [] (G, nx) mc ms Post)
    (kX : ∀ r, o = .inr r → ∀ G, LM vr 535 547 r F G → Ev g (d + 1) m_R_writesNumber 56 [none, none, none, none, none] [] (G, nx) mc ms Post)
    : Ev g (d + 1) m_R_writesNumber 34 [some (.inr (0, off 13 0)), none, none, none, some (.inl (.int x4))] [] (G, nx) mc ms Post := by
  unfold s_R_writesNumber_34 at h
  refine ev_iload (i := 4) rfl d_R_writesNumber_34 ?_
  refine ev_if_lt (tgt := 56) (by decide) d_R_writesNumber_36 (fun c => ?_) (fun c => ?_)
  · rw [if_pos c] at h
    exact Ev.sub (.n (.n (.n (.n (.n LSb.z))))) (kX _ (Option.some.inj h).symm G hG)
  · rw [if_neg c] at h
    refine ev_aload_n (k0 := 0) rfl d_R_writesNumber_39 ?_
    refine ev_aload_n (k0 := 0) rfl d_R_writesNumber_40 ?_
    refine cv_get9 (.inr (0, off 50 0)) hG v_13 fg_ProphecyShopModel_45_13 rfl rfl d_R_writesNumber_41 ?_
    refine ev_iload (i := 4) rfl d_R_writesNumber_44 ?_
    obtain ⟨b1, h⟩ := chk_some h
    refine cv_iald hG v_50 rfl rfl b1 rfl d_R_writesNumber_46 ?_
    obtain ⟨r2, hr2, h⟩ := bind_some9 h
    refine Ev.z9 ?_
    refine cv_V (d := d + 0) (mc1 := 0) (ms1 := 0) (mc := mc) (ms := ms) [.inl (.int (μ 50 0 x4.toNatClampNeg))] hG v_13 rfl lk_ProphecyShopModel_391 (w_R_writes (d + 0) hG hr2) rfl rfl d_R_writesNumber_47 (aft_rw (fun G hG => ?_))
    refine Ev.at (pc' := 50) rfl (Ev.cong (st' := []) ?_ rfl rfl)
    refine cw_iincN 4 (-1) [some (.inr (0, off 13 0)), none, none, none, some (.inl (.int (x4 + (-1))))] d_R_writesNumber_50 rfl rfl rfl rfl rfl ?_
    refine ev_goto (tgt := 34) (by decide) d_R_writesNumber_53 ?_
    exact kC _ (Option.some.inj h).symm G hG
set_option maxRecDepth 100000 in
set_option maxHeartbeats 4000000 in
theorem w_R_writesNumber {g : GL} {F G : RG} {nx : Nat} (d : Nat) {x1 : Int32} {μ : Mem}   {o : Mem} (hG : LM vr 535 547 μ F G) (h : f_R_writesNumber x1 μ = some o) : Mt g (d + 1) m_R_writesNumber [.inr (0, off 13 0), .inl (.int x1)] (G, nx) 0 0 (pRW vr 535 547 rV o F nx) := by
  unfold f_R_writesNumber at h
  have kE : ∀ v, o = v → pRW vr 535 547 rV o F nx = pRW vr 535 547 rV v F nx := fun v e => by rw [e]
  refine Mt.of9 [some (.inr (0, off 13 0)), some (.inl (.int x1)), none, none, none] (by decide +kernel) rfl rfl rfl rfl ?_
  refine ev_iload_n (k0 := 1) rfl d_R_writesNumber_0 ?_
  refine cw_istoreN_n 2 x1 rfl [some (.inr (0, off 13 0)), some (.inl (.int x1)), some (.inl (.int x1)), none, none] d_R_writesNumber_1 rfl rfl rfl ?_
  refine cw_iconst 0 d_R_writesNumber_2 rfl ?_
  refine cw_istoreN_n 3 0 rfl [some (.inr (0, off 13 0)), some (.inl (.int x1)), some (.inl (.int x1)), some (.inl (.int 0)), none] d_R_writesNumber_3 rfl rfl rfl ?_
  obtain ⟨q1, hl, h⟩ := bind_some9 h
  refine Ev.sub (ls' := [some (.inr (0, off 13 0)), none, some (.inl (.int x1)), some (.inl (.int 0)), none]) (.s (.n (.s (.s (.n LSb.z))))) ?_
  refine it_ev (W := fun (s : Int32 × Int32 × Mem) => ∀ G, LM vr 535 547 s.2.2 F G → Ev g (d + 1) m_R_writesNumber 4 [some (.inr (0, off 13 0)), none, some (.inl (.int s.1)), some (.inl (.int s.2.1)), none] [] (G, nx) 0 0 (pRW vr 535 547 rV o F nx)) (X := fun z => z = q1) rfl (fun s9 o9 hs kC9 kX9 => ?_) LIM _ hl G hG
  intro G hG
  refine ws_R_writesNumber_4 d  hG hs kC9 (fun r_ e G hG => ?_)
  · obtain rfl := (kX9 _ e).symm
    refine ev_iload_n (k0 := 3) rfl d_R_writesNumber_29 ?_
    refine cw_iconst 1 d_R_writesNumber_30 rfl ?_
    refine ev_isub d_R_writesNumber_31 ?_
    obtain ⟨v2, e_v2, h⟩ := nm_some h
    refine cw_istoreN 4 v2 e_v2 [some (.inr (0, off 13 0)), none, none, some (.inl (.int q1.1)), some (.inl (.int v2))] d_R_writesNumber_32 rfl rfl rfl ?_
    obtain ⟨q3, hl, h⟩ := bind_some9 h
    refine Ev.sub (ls' := [some (.inr (0, off 13 0)), none, none, none, some (.inl (.int v2))]) (.s (.n (.n (.n (.s LSb.z))))) ?_
    refine it_ev (W := fun (s : Int32 × Mem) => ∀ G, LM vr 535 547 s.2 F G → Ev g (d + 1) m_R_writesNumber 34 [some (.inr (0, off 13 0)), none, none, none, some (.inl (.int s.1))] [] (G, nx) 0 0 (pRW vr 535 547 rV o F nx)) (X := fun z => z = q3) rfl (fun s9 o9 hs kC9 kX9 => ?_) LIM _ hl G hG
    intro G hG
    refine ws_R_writesNumber_34 d  hG hs kC9 (fun r_ e G hG => ?_)
    · obtain rfl := (kX9 _ e).symm
      have hP := kE _ (Option.some.inj h).symm
      exact ev_return (st := []) rfl d_R_writesNumber_56 (by rw [hP]; exact ⟨rfl, hG, rfl⟩)

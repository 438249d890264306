/-- ProphecyShop.sellAny -/
def f_P_sellAny (x1 : Int32) (x2 : Int32) (x3 : Int32) (x4 : Int32) (x5 : Int32) (x6 : Int32) (x7 : Int32) (μ : Mem) : Option (Int32 × Mem) :=
  ((f_Shop_faultOfSale 0 x1 x2 x3 x4 x5 x6 x7 μ)).bind (fun r1 => ((f_P_throwFor r1 μ)).bind (fun r2 => ((f_History_record 0 μ)).bind (fun r3 => ((f_Shop_addProphecy 0 x1 x2 x3 x4 x5 x6 x7 r3)).bind (fun r4 => some ((r4.1, r4.2))))))
set_option maxRecDepth 100000 in
set_option maxHeartbeats 4000000 in
theorem w_P_sellAny {g : GL} {F G : RG} {nx : Nat} (d : Nat) {x1 : Int32} {x2 : Int32} {x3 : Int32} {x4 : Int32} {x5 : Int32} {x6 : Int32} {x7 : Int32} {μ : Mem}   {o : Int32 × Mem} (hG : LM vc 0 535 μ F G) (h : f_P_sellAny x1 x2 x3 x4 x5 x6 x7 μ = some o) : Mt g (d + 3) m_P_sellAny [.inr (0, off 12 0), .inl (.int x1), .inl (.int x2), .inl (.int x3), .inl (.int x4), .inl (.int x5), .inl (.int x6), .inl (.int x7)] (G, nx) 0 0 (pRW vc 0 535 (rI o.1) o.2 F nx) := by
  unfold f_P_sellAny at h
  have kE : ∀ v, o = v → pRW vc 0 535 (rI o.1) o.2 F nx = pRW vc 0 535 (rI v.1) v.2 F nx := fun v e => by subst e; rfl
  refine Mt.of9 [some (.inr (0, off 12 0)), some (.inl (.int x1)), some (.inl (.int x2)), some (.inl (.int x3)), some (.inl (.int x4)), some (.inl (.int x5)), some (.inl (.int x6)), some (.inl (.int x7))] (by decide +kernel) rfl rfl rfl rfl ?_
  refine ev_aload_n (k0 := 0) rfl d_P_sellAny_0 ?_
  refine cv_get9 (.inr (0, off 9 0)) hG v_12 fg_ProphecyShop_47_12 rfl rfl d_P_sellAny_1 ?_
  refine ev_iload_n (k0 := 1) rfl d_P_sellAny_4 ?_
  refine ev_iload_n (k0 := 2) rfl d_P_sellAny_5 ?_
  refine ev_iload_n (k0 := 3) rfl d_P_sellAny_6 ?_
  refine ev_iload (i := 4) rfl d_P_sellAny_7 ?_
  refine ev_iload (i := 5) rfl d_P_sellAny_9 ?_
  refine ev_iload (i := 6) rfl d_P_sellAny_11 ?_
  refine ev_iload (i := 7) rfl d_P_sellAny_13 ?_
  obtain ⟨r1, hr1, h⟩ := bind_some9 h
  refine cv_V (d := d + 2) (mc1 := 0) (ms1 := 0) (mc := 0) (ms := 0) [.inl (.int x1), .inl (.int x2), .inl (.int x3), .inl (.int x4), .inl (.int x5), .inl (.int x6), .inl (.int x7)] hG (show vc 9 0 from (by decide : 0 < 12)) rfl lk_ProphecyShop_362 (w_Shop_faultOfSale (d + 1) (show vc 9 0 from (by decide : 0 < 12)) hG hr1) rfl rfl d_P_sellAny_15 (aft_ro ?_)
  refine Ev.at (pc' := 18) rfl (Ev.cong (st' := [.inl (.int r1)]) ?_ rfl rfl)
  obtain ⟨r2, hr2, h⟩ := bind_some9 h
  refine cw_S (d := d + 2) (mc1 := 0) (ms1 := 0) (mc := 0) (ms := 0) [.inl (.int r1)] lk_ProphecyShop_312 (w_P_throwFor (d + 2) hG hr2) rfl rfl d_P_sellAny_18 (aft_ro ?_)
  refine Ev.at (pc' := 21) rfl (Ev.cong (st' := []) ?_ rfl rfl)
  refine ev_aload_n (k0 := 0) rfl d_P_sellAny_21 ?_
  refine cv_get9 (.inr (0, off 2 0)) hG v_12 fg_ProphecyShop_57_12 rfl rfl d_P_sellAny_22 ?_
  refine ev_aload_n (k0 := 0) rfl d_P_sellAny_25 ?_
  refine cv_get9 (.inr (0, off 9 0)) hG v_12 fg_ProphecyShop_47_12 rfl rfl d_P_sellAny_26 ?_
  obtain ⟨r3, hr3, h⟩ := bind_some9 h
  refine cv_V (d := d + 2) (mc1 := 0) (ms1 := 0) (mc := 0) (ms := 0) [.inr (0, off 9 0)] hG v_2 rfl lk_ProphecyShop_138 (w_History_record (d + 0) (show vc 9 0 from (by decide : 0 < 12)) hG hr3) rfl rfl d_P_sellAny_29 (aft_rw (fun G hG => ?_))
  refine Ev.at (pc' := 32) rfl (Ev.cong (st' := []) ?_ rfl rfl)
  refine ev_aload_n (k0 := 0) rfl d_P_sellAny_32 ?_
  refine cv_get9 (.inr (0, off 9 0)) hG v_12 fg_ProphecyShop_47_12 rfl rfl d_P_sellAny_33 ?_
  refine ev_iload_n (k0 := 1) rfl d_P_sellAny_36 ?_
  refine ev_iload_n (k0 := 2) rfl d_P_sellAny_37 ?_
  refine ev_iload_n (k0 := 3) rfl d_P_sellAny_38 ?_
  refine ev_iload (i := 4) rfl d_P_sellAny_39 ?_
  refine ev_iload (i := 5) rfl d_P_sellAny_41 ?_
  refine ev_iload (i := 6) rfl d_P_sellAny_43 ?_
  refine ev_iload (i := 7) rfl d_P_sellAny_45 ?_
  obtain ⟨r4, hr4, h⟩ := bind_some9 h
  refine cv_V (d := d + 2) (mc1 := 0) (ms1 := 0) (mc := 0) (ms := 0) [.inl (.int x1), .inl (.int x2), .inl (.int x3), .inl (.int x4), .inl (.int x5), .inl (.int x6), .inl (.int x7)] hG (show vc 9 0 from (by decide : 0 < 12)) rfl lk_ProphecyShop_365 (w_Shop_addProphecy (d + 1) (show vc 9 0 from (by decide : 0 < 12)) hG hr4) rfl rfl d_P_sellAny_47 (aft_rw (fun G hG => ?_))
  refine Ev.at (pc' := 50) rfl (Ev.cong (st' := [.inl (.int r4.1)]) ?_ rfl rfl)
  have hP := kE _ (Option.some.inj h).symm
  exact ev_ireturn (st := []) rfl rfl d_P_sellAny_50 (by rw [hP]; exact ⟨rfl, hG, rfl⟩)

/-- ProphecyShop.sellDenial -/
def f_P_sellDenial (x1 : Int32) (x2 : Int32) (x3 : Int32) (x4 : Int32) (x5 : Int32) (x6 : Int32) (μ : Mem) : Option (Int32 × Mem) :=
  ((f_P_sellAny x1 2 x2 x3 x4 x5 x6 μ)).bind (fun r1 => some ((r1.1, r1.2)))
set_option maxRecDepth 100000 in
set_option maxHeartbeats 4000000 in
theorem w_P_sellDenial {g : GL} {F G : RG} {nx : Nat} (d : Nat) {x1 : Int32} {x2 : Int32} {x3 : Int32} {x4 : Int32} {x5 : Int32} {x6 : Int32} {μ : Mem}   {o : Int32 × Mem} (hG : LM vc 0 535 μ F G) (h : f_P_sellDenial x1 x2 x3 x4 x5 x6 μ = some o) : Mt g (d + 4) m_P_sellDenial [.inr (0, off 12 0), .inl (.int x1), .inl (.int x2), .inl (.int x3), .inl (.int x4), .inl (.int x5), .inl (.int x6)] (G, nx) 0 0 (pRW vc 0 535 (rI o.1) o.2 F nx) := by
  unfold f_P_sellDenial at h
  have kE : ∀ v, o = v → pRW vc 0 535 (rI o.1) o.2 F nx = pRW vc 0 535 (rI v.1) v.2 F nx := fun v e => by subst e; rfl
  refine Mt.of9 [some (.inr (0, off 12 0)), some (.inl (.int x1)), some (.inl (.int x2)), some (.inl (.int x3)), some (.inl (.int x4)), some (.inl (.int x5)), some (.inl (.int x6))] (by decide +kernel) rfl rfl rfl rfl ?_
  refine ev_aload_n (k0 := 0) rfl d_P_sellDenial_0 ?_
  refine ev_iload_n (k0 := 1) rfl d_P_sellDenial_1 ?_
  refine cw_iconst 2 d_P_sellDenial_2 rfl ?_
  refine ev_iload_n (k0 := 2) rfl d_P_sellDenial_3 ?_
  refine ev_iload_n (k0 := 3) rfl d_P_sellDenial_4 ?_
  refine ev_iload (i := 4) rfl d_P_sellDenial_5 ?_
  refine ev_iload (i := 5) rfl d_P_sellDenial_7 ?_
  refine ev_iload (i := 6) rfl d_P_sellDenial_9 ?_
  obtain ⟨r1, hr1, h⟩ := bind_some9 h
  refine cv_V (d := d + 3) (mc1 := 0) (ms1 := 0) (mc := 0) (ms := 0) [.inl (.int x1), .inl (.int 2), .inl (.int x2), .inl (.int x3), .inl (.int x4), .inl (.int x5), .inl (.int x6)] hG v_12 rfl lk_ProphecyShop_305 (w_P_sellAny (d + 0) hG hr1) rfl rfl d_P_sellDenial_11 (aft_rw (fun G hG => ?_))
  refine Ev.at (pc' := 14) rfl (Ev.cong (st' := [.inl (.int r1.1)]) ?_ rfl rfl)
  have hP := kE _ (Option.some.inj h).symm
  exact ev_ireturn (st := []) rfl rfl d_P_sellDenial_14 (by rw [hP]; exact ⟨rfl, hG, rfl⟩)

/-- ProphecyShop.sellPlain -/
def f_P_sellPlain (x1 : Int32) (x2 : Int32) (x3 : Int32) (x4 : Int32) (x5 : Int32) (x6 : Int32) (μ : Mem) : Option (Int32 × Mem) :=
  ((f_P_sellAny x1 0 x2 x3 x4 x5 x6 μ)).bind (fun r1 => some ((r1.1, r1.2)))
set_option maxRecDepth 100000 in
set_option maxHeartbeats 4000000 in
theorem w_P_sellPlain {g : GL} {F G : RG} {nx : Nat} (d : Nat) {x1 : Int32} {x2 : Int32} {x3 : Int32} {x4 : Int32} {x5 : Int32} {x6 : Int32} {μ : Mem}   {o : Int32 × Mem} (hG : LM vc 0 535 μ F G) (h : f_P_sellPlain x1 x2 x3 x4 x5 x6 μ = some o) : Mt g (d + 4) m_P_sellPlain [.inr (0, off 12 0), .inl (.int x1), .inl (.int x2), .inl (.int x3), .inl (.int x4), .inl (.int x5), .inl (.int x6)] (G, nx) 0 0 (pRW vc 0 535 (rI o.1) o.2 F nx) := by
  unfold f_P_sellPlain at h
  have kE : ∀ v, o = v → pRW vc 0 535 (rI o.1) o.2 F nx = pRW vc 0 535 (rI v.1) v.2 F nx := fun v e => by subst e; rfl
  refine Mt.of9 [some (.inr (0, off 12 0)), some (.inl (.int x1)), some (.inl (.int x2)), some (.inl (.int x3)), some (.inl (.int x4)), some (.inl (.int x5)), some (.inl (.int x6))] (by decide +kernel) rfl rfl rfl rfl ?_
  refine ev_aload_n (k0 := 0) rfl d_P_sellPlain_0 ?_
  refine ev_iload_n (k0 := 1) rfl d_P_sellPlain_1 ?_
  refine cw_iconst 0 d_P_sellPlain_2 rfl ?_
  refine ev_iload_n (k0 := 2) rfl d_P_sellPlain_3 ?_
  refine ev_iload_n (k0 := 3) rfl d_P_sellPlain_4 ?_
  refine ev_iload (i := 4) rfl d_P_sellPlain_5 ?_
  refine ev_iload (i := 5) rfl d_P_sellPlain_7 ?_
  refine ev_iload (i := 6) rfl d_P_sellPlain_9 ?_
  obtain ⟨r1, hr1, h⟩ := bind_some9 h
  refine cv_V (d := d + 3) (mc1 := 0) (ms1 := 0) (mc := 0) (ms := 0) [.inl (.int x1), .inl (.int 0), .inl (.int x2), .inl (.int x3), .inl (.int x4), .inl (.int x5), .inl (.int x6)] hG v_12 rfl lk_ProphecyShop_305 (w_P_sellAny (d + 0) hG hr1) rfl rfl d_P_sellPlain_11 (aft_rw (fun G hG => ?_))
  refine Ev.at (pc' := 14) rfl (Ev.cong (st' := [.inl (.int r1.1)]) ?_ rfl rfl)
  have hP := kE _ (Option.some.inj h).symm
  exact ev_ireturn (st := []) rfl rfl d_P_sellPlain_14 (by rw [hP]; exact ⟨rfl, hG, rfl⟩)

/-- ProphecyShop.sellVague -/
def f_P_sellVague (x1 : Int32) (x2 : Int32) (x3 : Int32) (x4 : Int32) (x5 : Int32) (μ : Mem) : Option (Int32 × Mem) :=
  ((f_P_sellAny x1 1 x2 (-1) x3 x4 x5 μ)).bind (fun r1 => some ((r1.1, r1.2)))
set_option maxRecDepth 100000 in
set_option maxHeartbeats 4000000 in
theorem w_P_sellVague {g : GL} {F G : RG} {nx : Nat} (d : Nat) {x1 : Int32} {x2 : Int32} {x3 : Int32} {x4 : Int32} {x5 : Int32} {μ : Mem}   {o : Int32 × Mem} (hG : LM vc 0 535 μ F G) (h : f_P_sellVague x1 x2 x3 x4 x5 μ = some o) : Mt g (d + 4) m_P_sellVague [.inr (0, off 12 0), .inl (.int x1), .inl (.int x2), .inl (.int x3), .inl (.int x4), .inl (.int x5)] (G, nx) 0 0 (pRW vc 0 535 (rI o.1) o.2 F nx) := by
  unfold f_P_sellVague at h
  have kE : ∀ v, o = v → pRW vc 0 535 (rI o.1) o.2 F nx = pRW vc 0 535 (rI v.1) v.2 F nx := fun v e => by subst e; rfl
  refine Mt.of9 [some (.inr (0, off 12 0)), some (.inl (.int x1)), some (.inl (.int x2)), some (.inl (.int x3)), some (.inl (.int x4)), some (.inl (.int x5))] (by decide +kernel) rfl rfl rfl rfl ?_
  refine ev_aload_n (k0 := 0) rfl d_P_sellVague_0 ?_
  refine ev_iload_n (k0 := 1) rfl d_P_sellVague_1 ?_
  refine cw_iconst 1 d_P_sellVague_2 rfl ?_
  refine ev_iload_n (k0 := 2) rfl d_P_sellVague_3 ?_
  refine cw_iconst (-1) d_P_sellVague_4 rfl ?_
  refine ev_iload_n (k0 := 3) rfl d_P_sellVague_5 ?_
  refine ev_iload (i := 4) rfl d_P_sellVague_6 ?_
  refine ev_iload (i := 5) rfl d_P_sellVague_8 ?_
  obtain ⟨r1, hr1, h⟩ := bind_some9 h
  refine cv_V (d := d + 3) (mc1 := 0) (ms1 := 0) (mc := 0) (ms := 0) [.inl (.int x1), .inl (.int 1), .inl (.int x2), .inl (.int ((-1))), .inl (.int x3), .inl (.int x4), .inl (.int x5)] hG v_12 rfl lk_ProphecyShop_305 (w_P_sellAny (d + 0) hG hr1) rfl rfl d_P_sellVague_10 (aft_rw (fun G hG => ?_))
  refine Ev.at (pc' := 13) rfl (Ev.cong (st' := [.inl (.int r1.1)]) ?_ rfl rfl)
  have hP := kE _ (Option.some.inj h).symm
  exact ev_ireturn (st := []) rfl rfl d_P_sellVague_13 (by rw [hP]; exact ⟨rfl, hG, rfl⟩)

/-- ProphecyShop.stateOf -/
def f_P_stateOf (x1 : Int32) (μ : Mem) : Option (Int32) :=
  ((f_P_prophecyWith x1 μ)).bind (fun r1 => chk (decide (r1 < 288)) (some (μ 5 r1 7)))
set_option maxRecDepth 100000 in
set_option maxHeartbeats 4000000 in
theorem w_P_stateOf {g : GL} {F G : RG} {nx : Nat} (d : Nat) {x1 : Int32} {μ : Mem}   {o : Int32} (hG : LM vc 0 535 μ F G) (h : f_P_stateOf x1 μ = some o) : Mt g (d + 3) m_P_stateOf [.inr (0, off 12 0), .inl (.int x1)] (G, nx) 0 0 (pRO (rI o) (G, nx)) := by
  unfold f_P_stateOf at h
  have kE : ∀ v, o = v → pRO (rI o) (G, nx) = pRO (rI v) (G, nx) := fun v e => by subst e; rfl
  refine Mt.of9 [some (.inr (0, off 12 0)), some (.inl (.int x1))] (by decide +kernel) rfl rfl rfl rfl ?_
  refine ev_aload_n (k0 := 0) rfl d_P_stateOf_0 ?_
  refine ev_iload_n (k0 := 1) rfl d_P_stateOf_1 ?_
  obtain ⟨r1, hr1, h⟩ := bind_some9 h
  refine cv_V (d := d + 2) (mc1 := 0) (ms1 := 0) (mc := 0) (ms := 0) [.inl (.int x1)] hG v_12 rfl lk_ProphecyShop_198 (w_P_prophecyWith (d + 0) hG hr1) rfl rfl d_P_stateOf_2 (aft_ro ?_)
  obtain ⟨b2, h⟩ := chk_some h
  refine Ev.at (pc' := 5) rfl (Ev.cong (st' := [.inr (0, off 5 r1)]) ?_ rfl rfl)
  refine cv_get9 (.inl (.int (μ 5 r1 7))) hG (show vc 5 _ from dlt9 b2) fg_ProphecyShop_222_5 rfl rfl d_P_stateOf_5 ?_
  have hP := kE _ (Option.some.inj h).symm
  exact ev_ireturn (st := []) rfl rfl d_P_stateOf_8 (by rw [hP]; exact ⟨rfl, rfl⟩)

/-- ProphecyShop.timesHappened -/
def f_P_timesHappened (x1 : Int32) (x2 : Int32) (μ : Mem) : Option (Int32) :=
  chk (decide ((μ 12 0 3).toNatClampNeg < 2)) (((f_Names_has (3 * ((μ 12 0 3).toNatClampNeg)) x1 μ)).bind (fun r2 => ((if r2 = 0 then (some (0)) else (chk (decide ((μ 12 0 3).toNatClampNeg < 2)) (((f_Names_has (3 * ((μ 12 0 3).toNatClampNeg) + 1) x2 μ)).bind (fun r7 => if r7 = 0 then (some (0)) else (some (1))))) : Option (Int32))).bind (fun q3 => ((f_P_throwIfMissing q3 μ)).bind (fun r4 => ((f_Shop_countHappenings 0 x1 x2 μ)).bind (fun r5 => some r5)))))
set_option maxRecDepth 100000 in
set_option maxHeartbeats 4000000 in
theorem w_P_timesHappened {g : GL} {F G : RG} {nx : Nat} (d : Nat) {x1 : Int32} {x2 : Int32} {μ : Mem}   {o : Int32} (hG : LM vc 0 535 μ F G) (h : f_P_timesHappened x1 x2 μ = some o) : Mt g (d + 1) m_P_timesHappened [.inr (0, off 12 0), .inl (.int x1), .inl (.int x2)] (G, nx) 0 0 (pRO (rI o) (G, nx)) := by
  unfold f_P_timesHappened at h
  have kE : ∀ v, o = v → pRO (rI o) (G, nx) = pRO (rI v) (G, nx) := fun v e => by subst e; rfl
  refine Mt.of9 [some (.inr (0, off 12 0)), some (.inl (.int x1)), some (.inl (.int x2))] (by decide +kernel) rfl rfl rfl rfl ?_
  refine ev_aload_n (k0 := 0) rfl d_P_timesHappened_0 ?_
  obtain ⟨b1, h⟩ := chk_some h
  refine cv_get9 (.inr (0, off 7 ((μ 12 0 3).toNatClampNeg))) hG v_12 fg_ProphecyShop_35_12 rfl rfl d_P_timesHappened_1 ?_
  refine cv_get9 (.inr (0, off 3 (3 * ((μ 12 0 3).toNatClampNeg)))) hG (show vc 7 _ from dlt9 b1) fg_ProphecyShop_152_7 rfl rfl d_P_timesHappened_4 ?_
  refine ev_iload_n (k0 := 1) rfl d_P_timesHappened_7 ?_
  obtain ⟨r2, hr2, h⟩ := bind_some9 h
  refine cv_V (d := d + 0) (mc1 := 0) (ms1 := 0) (mc := 0) (ms := 0) [.inl (.int x1)] hG (tv_7_5 (show vc 7 _ from dlt9 b1)) rfl lk_ProphecyShop_174 (w_Names_has (d + 0) (tv_7_5 (show vc 7 _ from dlt9 b1)) hG hr2) rfl rfl d_P_timesHappened_8 (aft_ro ?_)
  refine Ev.at (pc' := 11) rfl (Ev.cong (st' := [.inl (.int r2)]) ?_ rfl rfl)
  obtain ⟨q3, hj, h⟩ := bind_some9 h
  have K_q3 : Ev g (d + 1) m_P_timesHappened 33 [some (.inr (0, off 12 0)), some (.inl (.int x1)), some (.inl (.int x2))] [.inl (.int q3)] (G, nx) 0 0 (pRO (rI o) (G, nx)) := by
    obtain ⟨r4, hr4, h⟩ := bind_some9 h
    refine cw_S (d := d + 0) (mc1 := 0) (ms1 := 0) (mc := 0) (ms := 0) [.inl (.int q3)] lk_ProphecyShop_178 (w_P_throwIfMissing (d + 0) hG hr4) rfl rfl d_P_timesHappened_33 (aft_ro ?_)
    refine Ev.at (pc' := 36) rfl (Ev.cong (st' := []) ?_ rfl rfl)
    refine ev_aload_n (k0 := 0) rfl d_P_timesHappened_36 ?_
    refine cv_get9 (.inr (0, off 9 0)) hG v_12 fg_ProphecyShop_47_12 rfl rfl d_P_timesHappened_37 ?_
    refine ev_iload_n (k0 := 1) rfl d_P_timesHappened_40 ?_
    refine ev_iload_n (k0 := 2) rfl d_P_timesHappened_41 ?_
    obtain ⟨r5, hr5, h⟩ := bind_some9 h
    refine cv_V (d := d + 0) (mc1 := 0) (ms1 := 0) (mc := 0) (ms := 0) [.inl (.int x1), .inl (.int x2)] hG (show vc 9 0 from (by decide : 0 < 12)) rfl lk_ProphecyShop_185 (w_Shop_countHappenings (d + 0) (show vc 9 0 from (by decide : 0 < 12)) hG hr5) rfl rfl d_P_timesHappened_42 (aft_ro ?_)
    refine Ev.at (pc' := 45) rfl (Ev.cong (st' := [.inl (.int r5)]) ?_ rfl rfl)
    have hP := kE _ (Option.some.inj h).symm
    exact ev_ireturn (st := []) rfl rfl d_P_timesHappened_45 (by rw [hP]; exact ⟨rfl, rfl⟩)
  clear h
  have h := hj
  refine ev_if_eq (tgt := 32) (by decide) d_P_timesHappened_11 (fun c => ?_) (fun c => ?_)
  · rw [if_pos c] at h
    refine cw_iconst 0 d_P_timesHappened_32 rfl ?_
    obtain rfl := Option.some.inj h
    exact K_q3
  · rw [if_neg c] at h
    refine ev_aload_n (k0 := 0) rfl d_P_timesHappened_14 ?_
    obtain ⟨b6, h⟩ := chk_some h
    refine cv_get9 (.inr (0, off 7 ((μ 12 0 3).toNatClampNeg))) hG v_12 fg_ProphecyShop_35_12 rfl rfl d_P_timesHappened_15 ?_
    refine cv_get9 (.inr (0, off 3 (3 * ((μ 12 0 3).toNatClampNeg) + 1))) hG (show vc 7 _ from dlt9 b6) fg_ProphecyShop_161_7 rfl rfl d_P_timesHappened_18 ?_
    refine ev_iload_n (k0 := 2) rfl d_P_timesHappened_21 ?_
    obtain ⟨r7, hr7, h⟩ := bind_some9 h
    refine cv_V (d := d + 0) (mc1 := 0) (ms1 := 0) (mc := 0) (ms := 0) [.inl (.int x2)] hG (tv_7_6 (show vc 7 _ from dlt9 b6)) rfl lk_ProphecyShop_174 (w_Names_has (d + 0) (tv_7_6 (show vc 7 _ from dlt9 b6)) hG hr7) rfl rfl d_P_timesHappened_22 (aft_ro ?_)
    refine Ev.at (pc' := 25) rfl (Ev.cong (st' := [.inl (.int r7)]) ?_ rfl rfl)
    refine ev_if_eq (tgt := 32) (by decide) d_P_timesHappened_25 (fun c => ?_) (fun c => ?_)
    · rw [if_pos c] at h
      refine cw_iconst 0 d_P_timesHappened_32 rfl ?_
      obtain rfl := Option.some.inj h
      exact K_q3
    · rw [if_neg c] at h
      refine cw_iconst 1 d_P_timesHappened_28 rfl ?_
      refine ev_goto (tgt := 33) (by decide) d_P_timesHappened_29 ?_
      obtain rfl := Option.some.inj h
      exact K_q3

/-- ProphecyShop.truthShare -/
def f_P_truthShare  (μ : Mem) : Option (UInt32) :=
  ((f_Shop_countWithState 0 0 μ)).bind (fun r1 => nm ((μ 9 0 5) - r1 : Int32) (fun v2 => if v2 = 0 then some FP.fconst0 else (((f_Shop_countWithState 0 1 μ)).bind (fun r3 => chk (okF9 (FP.fdiv (FP.i2f r3) (FP.i2f v2))) (some (FP.fdiv (FP.i2f r3) (FP.i2f v2)))))))
set_option maxRecDepth 100000 in
set_option maxHeartbeats 4000000 in
theorem w_P_truthShare {g : GL} {F G : RG} {nx : Nat} (d : Nat)  {μ : Mem}   {o : UInt32} (hG : LM vc 0 535 μ F G) (h : f_P_truthShare  μ = some o) : Mt g (d + 1) m_P_truthShare [.inr (0, off 12 0)] (G, nx) 0 0 (pRO (rF o) (G, nx)) := by
  unfold f_P_truthShare at h
  have kE : ∀ v, o = v → pRO (rF o) (G, nx) = pRO (rF v) (G, nx) := fun v e => by subst e; rfl
  refine Mt.of9 [some (.inr (0, off 12 0)), none] (by decide +kernel) rfl rfl rfl rfl ?_
  refine ev_aload_n (k0 := 0) rfl d_P_truthShare_0 ?_
  refine cv_get9 (.inr (0, off 9 0)) hG v_12 fg_ProphecyShop_47_12 rfl rfl d_P_truthShare_1 ?_
  refine cv_get9 (.inl (.int (μ 9 0 5))) hG (show vc 9 0 from (by decide : 0 < 12)) fg_ProphecyShop_195_9 rfl rfl d_P_truthShare_4 ?_
  refine ev_aload_n (k0 := 0) rfl d_P_truthShare_7 ?_
  refine cv_get9 (.inr (0, off 9 0)) hG v_12 fg_ProphecyShop_47_12 rfl rfl d_P_truthShare_8 ?_
  refine cw_iconst 0 d_P_truthShare_11 rfl ?_
  obtain ⟨r1, hr1, h⟩ := bind_some9 h
  refine cv_V (d := d + 0) (mc1 := 0) (ms1 := 0) (mc := 0) (ms := 0) [.inl (.int 0)] hG (show vc 9 0 from (by decide : 0 < 12)) rfl lk_ProphecyShop_269 (w_Shop_countWithState (d + 0) (show vc 9 0 from (by decide : 0 < 12)) hG hr1) rfl rfl d_P_truthShare_12 (aft_ro ?_)
  refine Ev.at (pc' := 15) rfl (Ev.cong (st' := [.inl (.int r1), .inl (.int (μ 9 0 5))]) ?_ rfl rfl)
  refine ev_isub d_P_truthShare_15 ?_
  obtain ⟨v2, e_v2, h⟩ := nm_some h
  refine cw_istoreN_n 1 v2 e_v2 [some (.inr (0, off 12 0)), some (.inl (.int v2))] d_P_truthShare_16 rfl rfl rfl ?_
  refine ev_iload_n (k0 := 1) rfl d_P_truthShare_17 ?_
  refine ev_if_ne (tgt := 25) (by decide) d_P_truthShare_18 (fun c => ?_) (fun c => ?_)
  · rw [if_neg c] at h
    refine ev_aload_n (k0 := 0) rfl d_P_truthShare_25 ?_
    refine cv_get9 (.inr (0, off 9 0)) hG v_12 fg_ProphecyShop_47_12 rfl rfl d_P_truthShare_26 ?_
    refine cw_iconst 1 d_P_truthShare_29 rfl ?_
    obtain ⟨r3, hr3, h⟩ := bind_some9 h
    refine cv_V (d := d + 0) (mc1 := 0) (ms1 := 0) (mc := 0) (ms := 0) [.inl (.int 1)] hG (show vc 9 0 from (by decide : 0 < 12)) rfl lk_ProphecyShop_269 (w_Shop_countWithState (d + 0) (show vc 9 0 from (by decide : 0 < 12)) hG hr3) rfl rfl d_P_truthShare_30 (aft_ro ?_)
    refine Ev.at (pc' := 33) rfl (Ev.cong (st' := [.inl (.int r3)]) ?_ rfl rfl)
    refine ev_i2f d_P_truthShare_33 ?_
    refine ev_iload_n (k0 := 1) rfl d_P_truthShare_34 ?_
    refine ev_i2f d_P_truthShare_35 ?_
    obtain ⟨b4, h⟩ := chk_some h
    refine ev_fdiv (okF9_n b4) d_P_truthShare_36 ?_
    have hP := kE _ (Option.some.inj h).symm
    exact ev_freturn (st := []) rfl d_P_truthShare_37 (by rw [hP]; exact ⟨rfl, rfl⟩)
  · rw [if_pos c] at h
    refine ev_fconst0 d_P_truthShare_21 ?_
    refine ev_goto (tgt := 37) (by decide) d_P_truthShare_22 ?_
    have hP := kE _ (Option.some.inj h).symm
    exact ev_freturn (st := []) rfl d_P_truthShare_37 (by rw [hP]; exact ⟨rfl, rfl⟩)

/-- ProphecyShop.undo -/
def f_P_undo  (μ : Mem) : Option (Int32 × Mem) :=
  if (μ 2 0 1) = 0 then (none) else (((f_History_takeBack 0 μ)).bind (fun r1 => some ((r1 2 0 1, r1))))
set_option maxRecDepth 100000 in
set_option maxHeartbeats 4000000 in
theorem w_P_undo {g : GL} {F G : RG} {nx : Nat} (d : Nat)  {μ : Mem}   {o : Int32 × Mem} (hG : LM vc 0 535 μ F G) (h : f_P_undo  μ = some o) : Mt g (d + 3) m_P_undo [.inr (0, off 12 0)] (G, nx) 0 0 (pRW vc 0 535 (rI o.1) o.2 F nx) := by
  unfold f_P_undo at h
  have kE : ∀ v, o = v → pRW vc 0 535 (rI o.1) o.2 F nx = pRW vc 0 535 (rI v.1) v.2 F nx := fun v e => by subst e; rfl
  refine Mt.of9 [some (.inr (0, off 12 0))] (by decide +kernel) rfl rfl rfl rfl ?_
  refine ev_aload_n (k0 := 0) rfl d_P_undo_0 ?_
  refine cv_get9 (.inr (0, off 2 0)) hG v_12 fg_ProphecyShop_57_12 rfl rfl d_P_undo_1 ?_
  refine cv_get9 (.inl (.int (μ 2 0 1))) hG v_2 fg_ProphecyShop_348_2 rfl rfl d_P_undo_4 ?_
  refine ev_if_ne (tgt := 21) (by decide) d_P_undo_7 (fun c => ?_) (fun c => ?_)
  · rw [if_neg c] at h
    refine ev_aload_n (k0 := 0) rfl d_P_undo_21 ?_
    refine cv_get9 (.inr (0, off 2 0)) hG v_12 fg_ProphecyShop_57_12 rfl rfl d_P_undo_22 ?_
    refine ev_aload_n (k0 := 0) rfl d_P_undo_25 ?_
    refine cv_get9 (.inr (0, off 9 0)) hG v_12 fg_ProphecyShop_47_12 rfl rfl d_P_undo_26 ?_
    obtain ⟨r1, hr1, h⟩ := bind_some9 h
    refine cv_V (d := d + 2) (mc1 := 0) (ms1 := 0) (mc := 0) (ms := 0) [.inr (0, off 9 0)] hG v_2 rfl lk_ProphecyShop_351 (w_History_takeBack (d + 0) (show vc 9 0 from (by decide : 0 < 12)) hG hr1) rfl rfl d_P_undo_29 (aft_rw (fun G hG => ?_))
    refine Ev.at (pc' := 32) rfl (Ev.cong (st' := []) ?_ rfl rfl)
    refine ev_aload_n (k0 := 0) rfl d_P_undo_32 ?_
    refine cv_get9 (.inr (0, off 2 0)) hG v_12 fg_ProphecyShop_57_12 rfl rfl d_P_undo_33 ?_
    refine cv_get9 (.inl (.int (r1 2 0 1))) hG v_2 fg_ProphecyShop_348_2 rfl rfl d_P_undo_36 ?_
    have hP := kE _ (Option.some.inj h).symm
    exact ev_ireturn (st := []) rfl rfl d_P_undo_39 (by rw [hP]; exact ⟨rfl, hG, rfl⟩)
  · rw [if_pos c] at h
    cases h

/-- ProphecyShop.undoCount -/
def f_P_undoCount  (μ : Mem) : Option (Int32) :=
  some (μ 2 0 1)
set_option maxRecDepth 100000 in
set_option maxHeartbeats 4000000 in
theorem w_P_undoCount {g : GL} {F G : RG} {nx : Nat} (d : Nat)  {μ : Mem}   {o : Int32} (hG : LM vc 0 535 μ F G) (h : f_P_undoCount  μ = some o) : Mt g (d + 0) m_P_undoCount [.inr (0, off 12 0)] (G, nx) 0 0 (pRO (rI o) (G, nx)) := by
  unfold f_P_undoCount at h
  have kE : ∀ v, o = v → pRO (rI o) (G, nx) = pRO (rI v) (G, nx) := fun v e => by subst e; rfl
  refine Mt.of9 [some (.inr (0, off 12 0))] (by decide +kernel) rfl rfl rfl rfl ?_
  refine ev_aload_n (k0 := 0) rfl d_P_undoCount_0 ?_
  refine cv_get9 (.inr (0, off 2 0)) hG v_12 fg_ProphecyShop_57_12 rfl rfl d_P_undoCount_1 ?_
  refine cv_get9 (.inl (.int (μ 2 0 1))) hG v_2 fg_ProphecyShop_348_2 rfl rfl d_P_undoCount_4 ?_
  have hP := kE _ (Option.some.inj h).symm
  exact ev_ireturn (st := []) rfl rfl d_P_undoCount_7 (by rw [hP]; exact ⟨rfl, rfl⟩)

/-- ProphecyShopLaw$Own.refund -/
def f_Own_refund (j0 : Nat) (x1 : Int32) (μ : Mem) : Option (Int32) :=
  chk (inb x1 24) (chk (inb x1 24) (if (0 : Int32) ≤ (μ 70 j0 x1.toNatClampNeg) then (some (((μ 73 j0 x1.toNatClampNeg) * (μ 60 j0 3)) / 100)) else (some (((μ 73 j0 x1.toNatClampNeg) * (μ 60 j0 4)) / 100))))
set_option maxRecDepth 100000 in
set_option maxHeartbeats 4000000 in
theorem w_Own_refund {g : GL} {F G : RG} {b nx : Nat} (d : Nat) {j0 : Nat} {x1 : Int32} {μ : Mem} (hv0 : (vo b) 60 j0)  {o : Int32} (hG : LM (vo b) b (b + 21) μ F G) (h : f_Own_refund j0 x1 μ = some o) : Mt g (d + 0) m_Own_refund [.inr (0, off 60 j0), .inl (.int x1)] (G, nx) 0 0 (pRO (rI o) (G, nx)) := by
  unfold f_Own_refund at h
  have kE : ∀ v, o = v → pRO (rI o) (G, nx) = pRO (rI v) (G, nx) := fun v e => by subst e; rfl
  refine Mt.of9 [some (.inr (0, off 60 j0)), some (.inl (.int x1))] (by decide +kernel) rfl rfl rfl rfl ?_
  refine ev_aload_n (k0 := 0) rfl d_Own_refund_0 ?_
  refine cv_get9 (.inr (0, off 73 j0)) hG hv0 fg_Own_46_60 rfl rfl d_Own_refund_1 ?_
  refine ev_iload_n (k0 := 1) rfl d_Own_refund_4 ?_
  obtain ⟨b1, h⟩ := chk_some h
  refine cv_iald hG (tv_60_27 hv0) rfl rfl b1 rfl d_Own_refund_5 ?_
  refine ev_aload_n (k0 := 0) rfl d_Own_refund_6 ?_
  refine cv_get9 (.inr (0, off 70 j0)) hG hv0 fg_Own_37_60 rfl rfl d_Own_refund_7 ?_
  refine ev_iload_n (k0 := 1) rfl d_Own_refund_10 ?_
  obtain ⟨b2, h⟩ := chk_some h
  refine cv_iald hG (tv_60_24 hv0) rfl rfl b2 rfl d_Own_refund_11 ?_
  refine ev_if_ge (tgt := 22) (by decide) d_Own_refund_12 (fun c => ?_) (fun c => ?_)
  · rw [if_pos c] at h
    refine ev_aload_n (k0 := 0) rfl d_Own_refund_22 ?_
    refine cv_get9 (.inl (.int (μ 60 j0 3))) hG hv0 fg_Own_82_60 rfl rfl d_Own_refund_23 ?_
    refine ev_imul d_Own_refund_26 ?_
    refine cw_bipush 100 d_Own_refund_27 rfl ?_
    refine ev_idiv (by decide) d_Own_refund_29 ?_
    have hP := kE _ (Option.some.inj h).symm
    exact ev_ireturn (st := []) rfl rfl d_Own_refund_30 (by rw [hP]; exact ⟨rfl, rfl⟩)
  · rw [if_neg c] at h
    refine ev_aload_n (k0 := 0) rfl d_Own_refund_15 ?_
    refine cv_get9 (.inl (.int (μ 60 j0 4))) hG hv0 fg_Own_85_60 rfl rfl d_Own_refund_16 ?_
    refine ev_goto (tgt := 26) (by decide) d_Own_refund_19 ?_
    refine ev_imul d_Own_refund_26 ?_
    refine cw_bipush 100 d_Own_refund_27 rfl ?_
    refine ev_idiv (by decide) d_Own_refund_29 ?_
    have hP := kE _ (Option.some.inj h).symm
    exact ev_ireturn (st := []) rfl rfl d_Own_refund_30 (by rw [hP]; exact ⟨rfl, rfl⟩)

/-- ProphecyShopLaw$Own.expected -/
def f_Own_expected (j0 : Nat) (x1 : Int32) (μ : Mem) : Option (Int32) :=
  chk (inb x1 24) (if (μ 74 j0 x1.toNatClampNeg) = 0 then some 2 else (chk (inb x1 24) (if (μ 74 j0 x1.toNatClampNeg) = 1 then some 3 else (chk (inb x1 24) (if (μ 74 j0 x1.toNatClampNeg) = 3 then some 4 else (chk (inb x1 24) (if (μ 60 j0 5) ≤ ((μ 75 j0 x1.toNatClampNeg) + (μ 60 j0 2)) then (((f_Own_refund j0 x1 μ)).bind (fun r5 => if r5 ≤ (μ 60 j0 0) then some 1 else (some 6))) else (some 5))))))))
set_option maxRecDepth 100000 in
set_option maxHeartbeats 4000000 in
theorem w_Own_expected {g : GL} {F G : RG} {b nx : Nat} (d : Nat) {j0 : Nat} {x1 : Int32} {μ : Mem} (hv0 : (vo b) 60 j0)  {o : Int32} (hG : LM (vo b) b (b + 21) μ F G) (h : f_Own_expected j0 x1 μ = some o) : Mt g (d + 1) m_Own_expected [.inr (0, off 60 j0), .inl (.int x1)] (G, nx) 0 0 (pRO (rI o) (G, nx)) := by
  unfold f_Own_expected at h
  have kE : ∀ v, o = v → pRO (rI o) (G, nx) = pRO (rI v) (G, nx) := fun v e => by subst e; rfl
  refine Mt.of9 [some (.inr (0, off 60 j0)), some (.inl (.int x1))] (by decide +kernel) rfl rfl rfl rfl ?_
  refine ev_aload_n (k0 := 0) rfl d_Own_expected_0 ?_
  refine cv_get9 (.inr (0, off 74 j0)) hG hv0 fg_Own_49_60 rfl rfl d_Own_expected_1 ?_
  refine ev_iload_n (k0 := 1) rfl d_Own_expected_4 ?_
  obtain ⟨b1, h⟩ := chk_some h
  refine cv_iald hG (tv_60_28 hv0) rfl rfl b1 rfl d_Own_expected_5 ?_
  refine ev_if_ne (tgt := 13) (by decide) d_Own_expected_6 (fun c => ?_) (fun c => ?_)
  · rw [if_neg c] at h
    refine ev_aload_n (k0 := 0) rfl d_Own_expected_13 ?_
    refine cv_get9 (.inr (0, off 74 j0)) hG hv0 fg_Own_49_60 rfl rfl d_Own_expected_14 ?_
    refine ev_iload_n (k0 := 1) rfl d_Own_expected_17 ?_
    obtain ⟨b2, h⟩ := chk_some h
    refine cv_iald hG (tv_60_28 hv0) rfl rfl b2 rfl d_Own_expected_18 ?_
    refine cw_iconst 1 d_Own_expected_19 rfl ?_
    refine ev_icmp_ne (tgt := 27) (by decide) d_Own_expected_20 (fun c => ?_) (fun c => ?_)
    · rw [if_neg c] at h
      refine ev_aload_n (k0 := 0) rfl d_Own_expected_27 ?_
      refine cv_get9 (.inr (0, off 74 j0)) hG hv0 fg_Own_49_60 rfl rfl d_Own_expected_28 ?_
      refine ev_iload_n (k0 := 1) rfl d_Own_expected_31 ?_
      obtain ⟨b3, h⟩ := chk_some h
      refine cv_iald hG (tv_60_28 hv0) rfl rfl b3 rfl d_Own_expected_32 ?_
      refine cw_iconst 3 d_Own_expected_33 rfl ?_
      refine ev_icmp_ne (tgt := 41) (by decide) d_Own_expected_34 (fun c => ?_) (fun c => ?_)
      · rw [if_neg c] at h
        refine ev_aload_n (k0 := 0) rfl d_Own_expected_41 ?_
        refine cv_get9 (.inl (.int (μ 60 j0 5))) hG hv0 fg_Own_88_60 rfl rfl d_Own_expected_42 ?_
        refine ev_aload_n (k0 := 0) rfl d_Own_expected_45 ?_
        refine cv_get9 (.inr (0, off 75 j0)) hG hv0 fg_Own_52_60 rfl rfl d_Own_expected_46 ?_
        refine ev_iload_n (k0 := 1) rfl d_Own_expected_49 ?_
        obtain ⟨b4, h⟩ := chk_some h
        refine cv_iald hG (tv_60_29 hv0) rfl rfl b4 rfl d_Own_expected_50 ?_
        refine ev_aload_n (k0 := 0) rfl d_Own_expected_51 ?_
        refine cv_get9 (.inl (.int (μ 60 j0 2))) hG hv0 fg_Own_79_60 rfl rfl d_Own_expected_52 ?_
        refine ev_iadd d_Own_expected_55 ?_
        refine ev_icmp_le (tgt := 63) (by decide) d_Own_expected_56 (fun c => ?_) (fun c => ?_)
        · rw [if_pos c] at h
          refine ev_aload_n (k0 := 0) rfl d_Own_expected_63 ?_
          refine ev_iload_n (k0 := 1) rfl d_Own_expected_64 ?_
          obtain ⟨r5, hr5, h⟩ := bind_some9 h
          refine cv_V (d := d + 0) (mc1 := 0) (ms1 := 0) (mc := 0) (ms := 0) [.inl (.int x1)] hG hv0 rfl lk_Own_118 (w_Own_refund (d + 0) hv0 hG hr5) rfl rfl d_Own_expected_65 (aft_ro ?_)
          refine Ev.at (pc' := 68) rfl (Ev.cong (st' := [.inl (.int r5)]) ?_ rfl rfl)
          refine ev_aload_n (k0 := 0) rfl d_Own_expected_68 ?_
          refine cv_get9 (.inl (.int (μ 60 j0 0))) hG hv0 fg_Own_72_60 rfl rfl d_Own_expected_69 ?_
          refine ev_icmp_le (tgt := 80) (by decide) d_Own_expected_72 (fun c => ?_) (fun c => ?_)
          · rw [if_pos c] at h
            refine cw_iconst 1 d_Own_expected_80 rfl ?_
            have hP := kE _ (Option.some.inj h).symm
            exact ev_ireturn (st := []) rfl rfl d_Own_expected_81 (by rw [hP]; exact ⟨rfl, rfl⟩)
          · rw [if_neg c] at h
            refine cw_bipush 6 d_Own_expected_75 rfl ?_
            refine ev_goto (tgt := 81) (by decide) d_Own_expected_77 ?_
            have hP := kE _ (Option.some.inj h).symm
            exact ev_ireturn (st := []) rfl rfl d_Own_expected_81 (by rw [hP]; exact ⟨rfl, rfl⟩)
        · rw [if_neg c] at h
          refine cw_iconst 5 d_Own_expected_59 rfl ?_
          refine ev_goto (tgt := 81) (by decide) d_Own_expected_60 ?_
          have hP := kE _ (Option.some.inj h).symm
          exact ev_ireturn (st := []) rfl rfl d_Own_expected_81 (by rw [hP]; exact ⟨rfl, rfl⟩)
      · rw [if_pos c] at h
        refine cw_iconst 4 d_Own_expected_37 rfl ?_
        refine ev_goto (tgt := 81) (by decide) d_Own_expected_38 ?_
        have hP := kE _ (Option.some.inj h).symm
        exact ev_ireturn (st := []) rfl rfl d_Own_expected_81 (by rw [hP]; exact ⟨rfl, rfl⟩)
    · rw [if_pos c] at h
      refine cw_iconst 3 d_Own_expected_23 rfl ?_
      refine ev_goto (tgt := 81) (by decide) d_Own_expected_24 ?_
      have hP := kE _ (Option.some.inj h).symm
      exact ev_ireturn (st := []) rfl rfl d_Own_expected_81 (by rw [hP]; exact ⟨rfl, rfl⟩)
  · rw [if_pos c] at h
    refine cw_iconst 2 d_Own_expected_9 rfl ?_
    refine ev_goto (tgt := 81) (by decide) d_Own_expected_10 ?_
    have hP := kE _ (Option.some.inj h).symm
    exact ev_ireturn (st := []) rfl rfl d_Own_expected_81 (by rw [hP]; exact ⟨rfl, rfl⟩)

/-- ProphecyShopLaw$Own.happens -/
def s_Own_happens_43 (j0 : Nat) (x1 : Int32) (x2 : Int32) (x3 : Int32) (x4 : Int32) (μ : Mem) : Option ((Int32 × Int32 × Mem) ⊕ (Int32 × Mem)) :=
  if (μ 60 j0 10) ≤ x4 then (some (.inr ((x3, μ)))) else (chk (inb x4 24) (if (μ 74 j0 x4.toNatClampNeg) = 0 then (chk (inb x4 24) (if (μ 69 j0 x4.toNatClampNeg) = x1 then (chk (inb x4 24) (if (μ 60 j0 5) < (μ 71 j0 x4.toNatClampNeg) then (some (.inl ((x3, x4 + 1, μ)))) else (chk (inb x4 24) (if (μ 70 j0 x4.toNatClampNeg) < 0 then (chk (inb x4 24) (((if (μ 78 j0 x4.toNatClampNeg) = 0 then (some (1)) else (some (2)) : Option (Int32))).bind (fun q6 => chk (inb x4 24) (nm (st3 μ 74 j0 x4.toNatClampNeg q6) (fun μ8 => chk (inb x4 24) (nm (st3 μ8 75 j0 x4.toNatClampNeg (μ8 60 j0 5)) (fun μ10 => some (.inl ((x3 + 1, x4 + 1, μ10)))))))))) else (chk (inb x4 24) (if (μ 70 j0 x4.toNatClampNeg) = x2 then (chk (inb x4 24) (((if (μ 78 j0 x4.toNatClampNeg) = 0 then (some (1)) else (some (2)) : Option (Int32))).bind (fun q13 => chk (inb x4 24) (nm (st3 μ 74 j0 x4.toNatClampNeg q13) (fun μ15 => chk (inb x4 24) (nm (st3 μ15 75 j0 x4.toNatClampNeg (μ15 60 j0 5)) (fun μ17 => some (.inl ((x3 + 1, x4 + 1, μ17)))))))))) else (some (.inl ((x3, x4 + 1, μ)))))))))) else (some (.inl ((x3, x4 + 1, μ)))))) else (some (.inl ((x3, x4 + 1, μ))))))
def f_Own_happens (j0 : Nat) (x1 : Int32) (x2 : Int32) (μ : Mem) : Option (Int32 × Mem) :=
  chk (inb (μ 60 j0 11) 60) (nm (st3 μ 79 j0 (μ 60 j0 11).toNatClampNeg ((6 * x1) + x2)) (fun μ2 => chk (inb (μ2 60 j0 11) 60) (nm (st3 μ2 80 j0 (μ2 60 j0 11).toNatClampNeg (μ2 60 j0 5)) (fun μ4 => nm (st3 μ4 60 j0 11 ((μ4 60 j0 11) + 1)) (fun μ5 => (it (fun (s : Int32 × Int32 × Mem) => s_Own_happens_43 j0 x1 x2 s.1 s.2.1 s.2.2) LIM ((0, 0, μ5))).bind (fun q6 => some ((q6.1, q6.2))))))))
set_option maxRecDepth 100000 in
set_option maxHeartbeats 4000000 in
theorem ws_Own_happens_43 {g : GL} {F G : RG} {b nx mc ms : Nat} {Post : RO → RM → Prop} (d : Nat) {j0 : Nat} {x1 : Int32} {x2 : Int32} {x3 : Int32} {x4 : Int32} {μ : Mem} (hv0 : (vo b) 60 j0)  {o : (Int32 × Int32 × Mem) ⊕ (Int32 × Mem)} (hG : LM (vo b) b (b + 21) μ F G) (h : s_Own_happens_43 j0 x1 x2 x3 x4 μ = some o)
    (kC : ∀ s', o = .inl s' → ∀ G, LM (vo b) b (b + 21) s'.2.2 F G → Ev g (d + 0) m_Own_happens 43 [some (.inr (0, off 60 j0)), some (.inl (.int x1)), some (.inl (.int x2)), some (.inl (.int s'.1)), some (.inl (.int s'.2.1))] [] (G, nx) mc ms Post)
    (kX : ∀ r, o = .inr r → ∀ G, LM (vo b) b (b + 21) r.2 F G → Ev g (d + 0) m_Own_happens 153 [none, none, none, some (.inl (.int r.1)), none] [] (G, nx) mc ms Post)
    : Ev g (d + 0) m_Own_happens 43 [some (.inr (0, off 60 j0)), some (.inl (.int x1)), some (.inl (.int x2)), some (.inl (.int x3)), some (.inl (.int x4))] [] (G, nx) mc ms Post := by
  unfold s_Own_happens_43 at h
  refine ev_iload (i := 4) rfl d_Own_happens_43 ?_
  refine ev_aload_n (k0 := 0) rfl d_Own_happens_45 ?_
  refine cv_get9 (.inl (.int (μ 60 j0 10))) hG hv0 fg_Own_103_60 rfl rfl d_Own_happens_46 ?_
  refine ev_icmp_ge (tgt := 153) (by decide) d_Own_happens_49 (fun c => ?_) (fun c => ?_)
  · rw [if_pos c] at h
    exact Ev.sub (.n (.n (.n (.s (.n LSb.z))))) (kX _ (Option.some.inj h).symm G hG)
  · rw [if_neg c] at h
    refine ev_aload_n (k0 := 0) rfl d_Own_happens_52 ?_
    refine cv_get9 (.inr (0, off 74 j0)) hG hv0 fg_Own_49_60 rfl rfl d_Own_happens_53 ?_
    refine ev_iload (i := 4) rfl d_Own_happens_56 ?_
    obtain ⟨b1, h⟩ := chk_some h
    refine cv_iald hG (tv_60_28 hv0) rfl rfl b1 rfl d_Own_happens_58 ?_
    refine ev_if_ne (tgt := 147) (by decide) d_Own_happens_59 (fun c => ?_) (fun c => ?_)
    · rw [if_neg c] at h
      refine cw_iincN 4 1 [some (.inr (0, off 60 j0)), some (.inl (.int x1)), some (.inl (.int x2)), some (.inl (.int x3)), some (.inl (.int (x4 + 1)))] d_Own_happens_147 rfl rfl rfl rfl rfl ?_
      refine ev_goto (tgt := 43) (by decide) d_Own_happens_150 ?_
      exact kC _ (Option.some.inj h).symm G hG
    · rw [if_pos c] at h
      refine ev_aload_n (k0 := 0) rfl d_Own_happens_62 ?_
      refine cv_get9 (.inr (0, off 69 j0)) hG hv0 fg_Own_34_60 rfl rfl d_Own_happens_63 ?_
      refine ev_iload (i := 4) rfl d_Own_happens_66 ?_
      obtain ⟨b2, h⟩ := chk_some h
      refine cv_iald hG (tv_60_23 hv0) rfl rfl b2 rfl d_Own_happens_68 ?_
      refine ev_iload_n (k0 := 1) rfl d_Own_happens_69 ?_
      refine ev_icmp_ne (tgt := 147) (by decide) d_Own_happens_70 (fun c => ?_) (fun c => ?_)
      · rw [if_neg c] at h
        refine cw_iincN 4 1 [some (.inr (0, off 60 j0)), some (.inl (.int x1)), some (.inl (.int x2)), some (.inl (.int x3)), some (.inl (.int (x4 + 1)))] d_Own_happens_147 rfl rfl rfl rfl rfl ?_
        refine ev_goto (tgt := 43) (by decide) d_Own_happens_150 ?_
        exact kC _ (Option.some.inj h).symm G hG
      · rw [if_pos c] at h
        refine ev_aload_n (k0 := 0) rfl d_Own_happens_73 ?_
        refine cv_get9 (.inr (0, off 71 j0)) hG hv0 fg_Own_40_60 rfl rfl d_Own_happens_74 ?_
        refine ev_iload (i := 4) rfl d_Own_happens_77 ?_
        obtain ⟨b3, h⟩ := chk_some h
        refine cv_iald hG (tv_60_25 hv0) rfl rfl b3 rfl d_Own_happens_79 ?_
        refine ev_aload_n (k0 := 0) rfl d_Own_happens_80 ?_
        refine cv_get9 (.inl (.int (μ 60 j0 5))) hG hv0 fg_Own_88_60 rfl rfl d_Own_happens_81 ?_
        refine ev_icmp_gt (tgt := 147) (by decide) d_Own_happens_84 (fun c => ?_) (fun c => ?_)
        · rw [if_pos c] at h
          refine cw_iincN 4 1 [some (.inr (0, off 60 j0)), some (.inl (.int x1)), some (.inl (.int x2)), some (.inl (.int x3)), some (.inl (.int (x4 + 1)))] d_Own_happens_147 rfl rfl rfl rfl rfl ?_
          refine ev_goto (tgt := 43) (by decide) d_Own_happens_150 ?_
          exact kC _ (Option.some.inj h).symm G hG
        · rw [if_neg c] at h
          refine ev_aload_n (k0 := 0) rfl d_Own_happens_87 ?_
          refine cv_get9 (.inr (0, off 70 j0)) hG hv0 fg_Own_37_60 rfl rfl d_Own_happens_88 ?_
          refine ev_iload (i := 4) rfl d_Own_happens_91 ?_
          obtain ⟨b4, h⟩ := chk_some h
          refine cv_iald hG (tv_60_24 hv0) rfl rfl b4 rfl d_Own_happens_93 ?_
          refine ev_if_lt (tgt := 111) (by decide) d_Own_happens_94 (fun c => ?_) (fun c => ?_)
          · rw [if_pos c] at h
            refine ev_aload_n (k0 := 0) rfl d_Own_happens_111 ?_
            refine cv_get9 (.inr (0, off 74 j0)) hG hv0 fg_Own_49_60 rfl rfl d_Own_happens_112 ?_
            refine ev_iload (i := 4) rfl d_Own_happens_115 ?_
            refine ev_aload_n (k0 := 0) rfl d_Own_happens_117 ?_
            refine cv_get9 (.inr (0, off 78 j0)) hG hv0 fg_Own_61_60 rfl rfl d_Own_happens_118 ?_
            refine ev_iload (i := 4) rfl d_Own_happens_121 ?_
            obtain ⟨b5, h⟩ := chk_some h
            refine cv_zald hG (tv_60_32 hv0) rfl rfl b5 rfl d_Own_happens_123 ?_
            obtain ⟨q6, hj, h⟩ := bind_some9 h
            have K_q6 : Ev g (d + 0) m_Own_happens 132 [some (.inr (0, off 60 j0)), some (.inl (.int x1)), some (.inl (.int x2)), some (.inl (.int x3)), some (.inl (.int x4))] [.inl (.int q6), .inl (.int x4), .inr (0, off 74 j0)] (G, nx) mc ms Post := by
              obtain ⟨b7, h⟩ := chk_some h
              obtain ⟨μ8, e_μ8, h⟩ := nm_some h
              refine cv_iast hG okO (tv_60_28 hv0) rfl rfl b7 rfl d_Own_happens_132 ?_
              intro G hG; rw [← e_μ8] at hG
              refine ev_aload_n (k0 := 0) rfl d_Own_happens_133 ?_
              refine cv_get9 (.inr (0, off 75 j0)) hG hv0 fg_Own_52_60 rfl rfl d_Own_happens_134 ?_
              refine ev_iload (i := 4) rfl d_Own_happens_137 ?_
              refine ev_aload_n (k0 := 0) rfl d_Own_happens_139 ?_
              refine cv_get9 (.inl (.int (μ8 60 j0 5))) hG hv0 fg_Own_88_60 rfl rfl d_Own_happens_140 ?_
              obtain ⟨b9, h⟩ := chk_some h
              obtain ⟨μ10, e_μ10, h⟩ := nm_some h
              refine cv_iast hG okO (tv_60_29 hv0) rfl rfl b9 rfl d_Own_happens_143 ?_
              intro G hG; rw [← e_μ10] at hG
              refine cw_iincN 3 1 [some (.inr (0, off 60 j0)), some (.inl (.int x1)), some (.inl (.int x2)), some (.inl (.int (x3 + 1))), some (.inl (.int x4))] d_Own_happens_144 rfl rfl rfl rfl rfl ?_
              refine cw_iincN 4 1 [some (.inr (0, off 60 j0)), some (.inl (.int x1)), some (.inl (.int x2)), some (.inl (.int (x3 + 1))), some (.inl (.int (x4 + 1)))] d_Own_happens_147 rfl rfl rfl rfl rfl ?_
              refine ev_goto (tgt := 43) (by decide) d_Own_happens_150 ?_
              exact kC _ (Option.some.inj h).symm G hG
            clear h
            have h := hj
            refine ev_if_eq (tgt := 131) (by decide) d_Own_happens_124 (fun c => ?_) (fun c => ?_)
            · rw [if_pos c] at h
              refine cw_iconst 1 d_Own_happens_131 rfl ?_
              obtain rfl := Option.some.inj h
              exact K_q6
            · rw [if_neg c] at h
              refine cw_iconst 2 d_Own_happens_127 rfl ?_
              refine ev_goto (tgt := 132) (by decide) d_Own_happens_128 ?_
              obtain rfl := Option.some.inj h
              exact K_q6
          · rw [if_neg c] at h
            refine ev_aload_n (k0 := 0) rfl d_Own_happens_97 ?_
            refine cv_get9 (.inr (0, off 70 j0)) hG hv0 fg_Own_37_60 rfl rfl d_Own_happens_98 ?_
            refine ev_iload (i := 4) rfl d_Own_happens_101 ?_
            obtain ⟨b11, h⟩ := chk_some h
            refine cv_iald hG (tv_60_24 hv0) rfl rfl b11 rfl d_Own_happens_103 ?_
            refine ev_iload_n (k0 := 2) rfl d_Own_happens_104 ?_
            refine ev_icmp_eq (tgt := 111) (by decide) d_Own_happens_105 (fun c => ?_) (fun c => ?_)
            · rw [if_pos c] at h
              refine ev_aload_n (k0 := 0) rfl d_Own_happens_111 ?_
              refine cv_get9 (.inr (0, off 74 j0)) hG hv0 fg_Own_49_60 rfl rfl d_Own_happens_112 ?_
              refine ev_iload (i := 4) rfl d_Own_happens_115 ?_
              refine ev_aload_n (k0 := 0) rfl d_Own_happens_117 ?_
              refine cv_get9 (.inr (0, off 78 j0)) hG hv0 fg_Own_61_60 rfl rfl d_Own_happens_118 ?_
              refine ev_iload (i := 4) rfl d_Own_happens_121 ?_
              obtain ⟨b12, h⟩ := chk_some h
              refine cv_zald hG (tv_60_32 hv0) rfl rfl b12 rfl d_Own_happens_123 ?_
              obtain ⟨q13, hj, h⟩ := bind_some9 h
              have K_q13 : Ev g (d + 0) m_Own_happens 132 [some (.inr (0, off 60 j0)), some (.inl (.int x1)), some (.inl (.int x2)), some (.inl (.int x3)), some (.inl (.int x4))] [.inl (.int q13), .inl (.int x4), .inr (0, off 74 j0)] (G, nx) mc ms Post := by
                obtain ⟨b14, h⟩ := chk_some h
                obtain ⟨μ15, e_μ15, h⟩ := nm_some h
                refine cv_iast hG okO (tv_60_28 hv0) rfl rfl b14 rfl d_Own_happens_132 ?_
                intro G hG; rw [← e_μ15] at hG
                refine ev_aload_n (k0 := 0) rfl d_Own_happens_133 ?_
                refine cv_get9 (.inr (0, off 75 j0)) hG hv0 fg_Own_52_60 rfl rfl d_Own_happens_134 ?_
                refine ev_iload (i := 4) rfl d_Own_happens_137 ?_
                refine ev_aload_n (k0 := 0) rfl d_Own_happens_139 ?_
                refine cv_get9 (.inl (.int (μ15 60 j0 5))) hG hv0 fg_Own_88_60 rfl rfl d_Own_happens_140 ?_
                obtain ⟨b16, h⟩ := chk_some h
                obtain ⟨μ17, e_μ17, h⟩ := nm_some h
                refine cv_iast hG okO (tv_60_29 hv0) rfl rfl b16 rfl d_Own_happens_143 ?_
                intro G hG; rw [← e_μ17] at hG
                refine cw_iincN 3 1 [some (.inr (0, off 60 j0)), some (.inl (.int x1)), some (.inl (.int x2)), some (.inl (.int (x3 + 1))), some (.inl (.int x4))] d_Own_happens_144 rfl rfl rfl rfl rfl ?_
                refine cw_iincN 4 1 [some (.inr (0, off 60 j0)), some (.inl (.int x1)), some (.inl (.int x2)), some (.inl (.int (x3 + 1))), some (.inl (.int (x4 + 1)))] d_Own_happens_147 rfl rfl rfl rfl rfl ?_
                refine ev_goto (tgt := 43) (by decide) d_Own_happens_150 ?_
                exact kC _ (Option.some.inj h).symm G hG
              clear h
              have h := hj
              refine ev_if_eq (tgt := 131) (by decide) d_Own_happens_124 (fun c => ?_) (fun c => ?_)
              · rw [if_pos c] at h
                refine cw_iconst 1 d_Own_happens_131 rfl ?_
                obtain rfl := Option.some.inj h
                exact K_q13
              · rw [if_neg c] at h
                refine cw_iconst 2 d_Own_happens_127 rfl ?_
                refine ev_goto (tgt := 132) (by decide) d_Own_happens_128 ?_
                obtain rfl := Option.some.inj h
                exact K_q13
            · rw [if_neg c] at h
              refine ev_goto (tgt := 147) (by decide) d_Own_happens_108 ?_
              refine cw_iincN 4 1 [some (.inr (0, off 60 j0)), some (.inl (.int x1)), some (.inl (.int x2)), some (.inl (.int x3)), some (.inl (.int (x4 + 1)))] d_Own_happens_147 rfl rfl rfl rfl rfl ?_
              refine ev_goto (tgt := 43) (by decide) d_Own_happens_150 ?_
              exact kC _ (Option.some.inj h).symm G hG
set_option maxRecDepth 100000 in
set_option maxHeartbeats 4000000 in
theorem w_Own_happens {g : GL} {F G : RG} {b nx : Nat} (d : Nat) {j0 : Nat} {x1 : Int32} {x2 : Int32} {μ : Mem} (hv0 : (vo b) 60 j0)  {o : Int32 × Mem} (hG : LM (vo b) b (b + 21) μ F G) (h : f_Own_happens j0 x1 x2 μ = some o) : Mt g (d + 0) m_Own_happens [.inr (0, off 60 j0), .inl (.int x1), .inl (.int x2)] (G, nx) 0 0 (pRW (vo b) b (b + 21) (rI o.1) o.2 F nx) := by
  unfold f_Own_happens at h
  have kE : ∀ v, o = v → pRW (vo b) b (b + 21) (rI o.1) o.2 F nx = pRW (vo b) b (b + 21) (rI v.1) v.2 F nx := fun v e => by subst e; rfl
  refine Mt.of9 [some (.inr (0, off 60 j0)), some (.inl (.int x1)), some (.inl (.int x2)), none, none] (by decide +kernel) rfl rfl rfl rfl ?_
  refine cw_iconst 0 d_Own_happens_0 rfl ?_
  refine cw_istoreN_n 3 0 rfl [some (.inr (0, off 60 j0)), some (.inl (.int x1)), some (.inl (.int x2)), some (.inl (.int 0)), none] d_Own_happens_1 rfl rfl rfl ?_
  refine ev_aload_n (k0 := 0) rfl d_Own_happens_2 ?_
  refine cv_get9 (.inr (0, off 79 j0)) hG hv0 fg_Own_65_60 rfl rfl d_Own_happens_3 ?_
  refine ev_aload_n (k0 := 0) rfl d_Own_happens_6 ?_
  refine cv_get9 (.inl (.int (μ 60 j0 11))) hG hv0 fg_Own_106_60 rfl rfl d_Own_happens_7 ?_
  refine cw_bipush 6 d_Own_happens_10 rfl ?_
  refine ev_iload_n (k0 := 1) rfl d_Own_happens_12 ?_
  refine ev_imul d_Own_happens_13 ?_
  refine ev_iload_n (k0 := 2) rfl d_Own_happens_14 ?_
  refine ev_iadd d_Own_happens_15 ?_
  refine Ev.at (pc' := 16) rfl ?_
  obtain ⟨b1, h⟩ := chk_some h
  obtain ⟨μ2, e_μ2, h⟩ := nm_some h
  refine cv_iast hG okO (tv_60_33 hv0) rfl rfl b1 rfl d_Own_happens_16 ?_
  intro G hG; rw [← e_μ2] at hG
  refine ev_aload_n (k0 := 0) rfl d_Own_happens_17 ?_
  refine cv_get9 (.inr (0, off 80 j0)) hG hv0 fg_Own_68_60 rfl rfl d_Own_happens_18 ?_
  refine ev_aload_n (k0 := 0) rfl d_Own_happens_21 ?_
  refine cv_get9 (.inl (.int (μ2 60 j0 11))) hG hv0 fg_Own_106_60 rfl rfl d_Own_happens_22 ?_
  refine ev_aload_n (k0 := 0) rfl d_Own_happens_25 ?_
  refine cv_get9 (.inl (.int (μ2 60 j0 5))) hG hv0 fg_Own_88_60 rfl rfl d_Own_happens_26 ?_
  obtain ⟨b3, h⟩ := chk_some h
  obtain ⟨μ4, e_μ4, h⟩ := nm_some h
  refine cv_iast hG okO (tv_60_34 hv0) rfl rfl b3 rfl d_Own_happens_29 ?_
  intro G hG; rw [← e_μ4] at hG
  refine ev_aload_n (k0 := 0) rfl d_Own_happens_30 ?_
  refine ev_dup rfl d_Own_happens_31 ?_
  refine cv_get9 (.inl (.int (μ4 60 j0 11))) hG hv0 fg_Own_106_60 rfl rfl d_Own_happens_32 ?_
  refine cw_iconst 1 d_Own_happens_35 rfl ?_
  refine Ev.at (pc' := 36) rfl ?_
  refine ev_iadd d_Own_happens_36 ?_
  obtain ⟨μ5, e_μ5, h⟩ := nm_some h
  refine cv_put (.inl (.int ((μ4 60 j0 11) + 1))) ((μ4 60 j0 11) + 1) hG okO hv0 fl_Own_106_60 rfl rfl okv_int d_Own_happens_37 ?_
  intro G hG; rw [← e_μ5] at hG
  refine cw_iconst 0 d_Own_happens_40 rfl ?_
  refine cw_istoreN 4 0 rfl [some (.inr (0, off 60 j0)), some (.inl (.int x1)), some (.inl (.int x2)), some (.inl (.int 0)), some (.inl (.int 0))] d_Own_happens_41 rfl rfl rfl ?_
  obtain ⟨q6, hl, h⟩ := bind_some9 h
  refine it_ev (W := fun (s : Int32 × Int32 × Mem) => ∀ G, LM (vo b) b (b + 21) s.2.2 F G → Ev g (d + 0) m_Own_happens 43 [some (.inr (0, off 60 j0)), some (.inl (.int x1)), some (.inl (.int x2)), some (.inl (.int s.1)), some (.inl (.int s.2.1))] [] (G, nx) 0 0 (pRW (vo b) b (b + 21) (rI o.1) o.2 F nx)) (X := fun z => z = q6) rfl (fun s9 o9 hs kC9 kX9 => ?_) LIM _ hl G hG
  intro G hG
  refine ws_Own_happens_43 d hv0 hG hs kC9 (fun r_ e G hG => ?_)
  · obtain rfl := (kX9 _ e).symm
    refine ev_iload_n (k0 := 3) rfl d_Own_happens_153 ?_
    have hP := kE _ (Option.some.inj h).symm
    exact ev_ireturn (st := []) rfl rfl d_Own_happens_154 (by rw [hP]; exact ⟨rfl, hG, rfl⟩)

/-- ProphecyShopLaw$Own.has -/
def s_Own_has_3 (j0 : Nat) (x1 : Int32) (x2 : Int32) (x3 : Int32) (x4 : Int32) (μ : Mem) : Option ((Int32) ⊕ ((Unit) ⊕ (Int32))) :=
  if (μ 60 j0 11) ≤ x4 then (some (.inr (.inl (())))) else (chk (inb x4 60) (if (μ 79 j0 x4.toNatClampNeg) = ((6 * x1) + x2) then (chk (inb x4 60) (if (μ 80 j0 x4.toNatClampNeg) = x3 then (some (.inr (.inr 1))) else (some (.inl (x4 + 1))))) else (some (.inl (x4 + 1)))))
def f_Own_has (j0 : Nat) (x1 : Int32) (x2 : Int32) (x3 : Int32) (μ : Mem) : Option (Int32) :=
  (it (fun (s : Int32) => s_Own_has_3 j0 x1 x2 x3 s μ) LIM 0).bind (fun q1 => els q1 (fun r2 => some 0) (fun v => some v))
set_option maxRecDepth 100000 in
set_option maxHeartbeats 4000000 in
theorem ws_Own_has_3 {g : GL} {F G : RG} {b nx mc ms : Nat} {Post : RO → RM → Prop} (d : Nat) {j0 : Nat} {x1 : Int32} {x2 : Int32} {x3 : Int32} {x4 : Int32} {μ : Mem} (hv0 : (vo b) 60 j0)  {o : (Int32) ⊕ ((Unit) ⊕ (Int32))} (hG : LM (vo b) b (b + 21) μ F G) (h : s_Own_has_3 j0 x1 x2 x3 x4 μ = some o)
    (kC : ∀ s', o = .inl s' → Ev g (d + 0) m_Own_has 3 [some (.inr (0, off 60 j0)), some (.inl (.int x1)), some (.inl (.int x2)), some (.inl (.int x3)), some (.inl (.int s'))] [] (G, nx) mc ms Post)
    (kX : ∀ r, o = .inr (.inl r) → Ev g (d + 0) m_Own_has 47 [none, none, none, none, none] [] (G, nx) mc ms Post)
    (kE : ∀ v, o = .inr (.inr v) → Post = pRO (rI v) (G, nx)) : Ev g (d + 0) m_Own_has 3 [some (.inr (0, off 60 j0)), some (.inl (.int x1)), some (.inl (.int x2)), some (.inl (.int x3)), some (.inl (.int x4))] [] (G, nx) mc ms Post := by
  unfold s_Own_has_3 at h
  refine ev_iload (i := 4) rfl d_Own_has_3 ?_
  refine ev_aload_n (k0 := 0) rfl d_Own_has_5 ?_
  refine cv_get9 (.inl (.int (μ 60 j0 11))) hG hv0 fg_Own_106_60 rfl rfl d_Own_has_6 ?_
  refine ev_icmp_ge (tgt := 47) (by decide) d_Own_has_9 (fun c => ?_) (fun c => ?_)
  · rw [if_pos c] at h
    exact Ev.sub (.n (.n (.n (.n (.n LSb.z))))) (kX _ (Option.some.inj h).symm)
  · rw [if_neg c] at h
    refine ev_aload_n (k0 := 0) rfl d_Own_has_12 ?_
    refine cv_get9 (.inr (0, off 79 j0)) hG hv0 fg_Own_65_60 rfl rfl d_Own_has_13 ?_
    refine ev_iload (i := 4) rfl d_Own_has_16 ?_
    obtain ⟨b1, h⟩ := chk_some h
    refine cv_iald hG (tv_60_33 hv0) rfl rfl b1 rfl d_Own_has_18 ?_
    refine cw_bipush 6 d_Own_has_19 rfl ?_
    refine ev_iload_n (k0 := 1) rfl d_Own_has_21 ?_
    refine ev_imul d_Own_has_22 ?_
    refine ev_iload_n (k0 := 2) rfl d_Own_has_23 ?_
    refine ev_iadd d_Own_has_24 ?_
    refine ev_icmp_ne (tgt := 41) (by decide) d_Own_has_25 (fun c => ?_) (fun c => ?_)
    · rw [if_neg c] at h
      refine cw_iincN 4 1 [some (.inr (0, off 60 j0)), some (.inl (.int x1)), some (.inl (.int x2)), some (.inl (.int x3)), some (.inl (.int (x4 + 1)))] d_Own_has_41 rfl rfl rfl rfl rfl ?_
      refine ev_goto (tgt := 3) (by decide) d_Own_has_44 ?_
      exact kC _ (Option.some.inj h).symm
    · rw [if_pos c] at h
      refine ev_aload_n (k0 := 0) rfl d_Own_has_28 ?_
      refine cv_get9 (.inr (0, off 80 j0)) hG hv0 fg_Own_68_60 rfl rfl d_Own_has_29 ?_
      refine ev_iload (i := 4) rfl d_Own_has_32 ?_
      obtain ⟨b2, h⟩ := chk_some h
      refine cv_iald hG (tv_60_34 hv0) rfl rfl b2 rfl d_Own_has_34 ?_
      refine ev_iload_n (k0 := 3) rfl d_Own_has_35 ?_
      refine ev_icmp_ne (tgt := 41) (by decide) d_Own_has_36 (fun c => ?_) (fun c => ?_)
      · rw [if_neg c] at h
        refine cw_iincN 4 1 [some (.inr (0, off 60 j0)), some (.inl (.int x1)), some (.inl (.int x2)), some (.inl (.int x3)), some (.inl (.int (x4 + 1)))] d_Own_has_41 rfl rfl rfl rfl rfl ?_
        refine ev_goto (tgt := 3) (by decide) d_Own_has_44 ?_
        exact kC _ (Option.some.inj h).symm
      · rw [if_pos c] at h
        refine cw_iconst 1 d_Own_has_39 rfl ?_
        have hP := kE _ (Option.some.inj h).symm
        exact ev_ireturn (st := []) rfl rfl d_Own_has_40 (by rw [hP]; exact ⟨rfl, rfl⟩)
set_option maxRecDepth 100000 in
set_option maxHeartbeats 4000000 in
theorem w_Own_has {g : GL} {F G : RG} {b nx : Nat} (d : Nat) {j0 : Nat} {x1 : Int32} {x2 : Int32} {x3 : Int32} {μ : Mem} (hv0 : (vo b) 60 j0)  {o : Int32} (hG : LM (vo b) b (b + 21) μ F G) (h : f_Own_has j0 x1 x2 x3 μ = some o) : Mt g (d + 0) m_Own_has [.inr (0, off 60 j0), .inl (.int x1), .inl (.int x2), .inl (.int x3)] (G, nx) 0 0 (pRO (rI o) (G, nx)) := by
  unfold f_Own_has at h
  have kE : ∀ v, o = v → pRO (rI o) (G, nx) = pRO (rI v) (G, nx) := fun v e => by subst e; rfl
  refine Mt.of9 [some (.inr (0, off 60 j0)), some (.inl (.int x1)), some (.inl (.int x2)), some (.inl (.int x3)), none] (by decide +kernel) rfl rfl rfl rfl ?_
  refine cw_iconst 0 d_Own_has_0 rfl ?_
  refine cw_istoreN 4 0 rfl [some (.inr (0, off 60 j0)), some (.inl (.int x1)), some (.inl (.int x2)), some (.inl (.int x3)), some (.inl (.int 0))] d_Own_has_1 rfl rfl rfl ?_
  obtain ⟨q1, hl, h⟩ := bind_some9 h
  refine it_ev (W := fun (s : Int32) => Ev g (d + 0) m_Own_has 3 [some (.inr (0, off 60 j0)), some (.inl (.int x1)), some (.inl (.int x2)), some (.inl (.int x3)), some (.inl (.int s))] [] (G, nx) 0 0 (pRO (rI o) (G, nx))) (X := fun z => z = q1) rfl (fun s9 o9 hs kC9 kX9 => ?_) LIM _ hl
  refine ws_Own_has_3 d hv0 hG hs kC9 (fun r2 e => ?_) (fun v e => ?_)
  · obtain rfl := kX9 _ e
    rw [els_l] at h
    refine cw_iconst 0 d_Own_has_47 rfl ?_
    have hP := kE _ (Option.some.inj h).symm
    exact ev_ireturn (st := []) rfl rfl d_Own_has_48 (by rw [hP]; exact ⟨rfl, rfl⟩)
  · obtain rfl := kX9 _ e
    rw [els_r] at h
    exact kE _ (Option.some.inj h).symm

/-- ProphecyShopLaw$Own.idle -/
def s_Own_idle_2 (j0 : Nat) (x1 : Int32) (μ : Mem) : Option ((Int32) ⊕ (Int32)) :=
  if (μ 60 j0 9) ≤ x1 then (some (.inr x1)) else (chk (inb x1 5) (if (μ 64 j0 x1.toNatClampNeg) ≤ 0 then (some (.inr x1)) else (some (.inl (x1 + 1)))))
def f_Own_idle (j0 : Nat) (μ : Mem) : Option (Int32) :=
  (it (fun (s : Int32) => s_Own_idle_2 j0 s μ) LIM 0).bind (fun q1 => some q1)
set_option maxRecDepth 100000 in
set_option maxHeartbeats 4000000 in
theorem ws_Own_idle_2 {g : GL} {F G : RG} {b nx mc ms : Nat} {Post : RO → RM → Prop} (d : Nat) {j0 : Nat} {x1 : Int32} {μ : Mem} (hv0 : (vo b) 60 j0)  {o : (Int32) ⊕ (Int32)} (hG : LM (vo b) b (b + 21) μ F G) (h : s_Own_idle_2 j0 x1 μ = some o)
    (kC : ∀ s', o = .inl s' → Ev g (d + 0) m_Own_idle 2 [some (.inr (0, off 60 j0)), some (.inl (.int s'))] [] (G, nx) mc ms Post)
    (kX : ∀ r, o = .inr r → Ev g (d + 0) m_Own_idle 25 [none, some (.inl (.int r))] [] (G, nx) mc ms Post)
    : Ev g (d + 0) m_Own_idle 2 [some (.inr (0, off 60 j0)), some (.inl (.int x1))] [] (G, nx) mc ms Post := by
  unfold s_Own_idle_2 at h
  refine ev_iload_n (k0 := 1) rfl d_Own_idle_2 ?_
  refine ev_aload_n (k0 := 0) rfl d_Own_idle_3 ?_
  refine cv_get9 (.inl (.int (μ 60 j0 9))) hG hv0 fg_Own_100_60 rfl rfl d_Own_idle_4 ?_
  refine ev_icmp_ge (tgt := 25) (by decide) d_Own_idle_7 (fun c => ?_) (fun c => ?_)
  · rw [if_pos c] at h
    exact Ev.sub (.n (.s LSb.z)) (kX _ (Option.some.inj h).symm)
  · rw [if_neg c] at h
    refine ev_aload_n (k0 := 0) rfl d_Own_idle_10 ?_
    refine cv_get9 (.inr (0, off 64 j0)) hG hv0 fg_Own_19_60 rfl rfl d_Own_idle_11 ?_
    refine ev_iload_n (k0 := 1) rfl d_Own_idle_14 ?_
    obtain ⟨b1, h⟩ := chk_some h
    refine cv_iald hG (tv_60_18 hv0) rfl rfl b1 rfl d_Own_idle_15 ?_
    refine ev_if_le (tgt := 25) (by decide) d_Own_idle_16 (fun c => ?_) (fun c => ?_)
    · rw [if_pos c] at h
      exact Ev.sub (.n (.s LSb.z)) (kX _ (Option.some.inj h).symm)
    · rw [if_neg c] at h
      refine cw_iincN 1 1 [some (.inr (0, off 60 j0)), some (.inl (.int (x1 + 1)))] d_Own_idle_19 rfl rfl rfl rfl rfl ?_
      refine ev_goto (tgt := 2) (by decide) d_Own_idle_22 ?_
      exact kC _ (Option.some.inj h).symm
set_option maxRecDepth 100000 in
set_option maxHeartbeats 4000000 in
theorem w_Own_idle {g : GL} {F G : RG} {b nx : Nat} (d : Nat) {j0 : Nat} {μ : Mem} (hv0 : (vo b) 60 j0)  {o : Int32} (hG : LM (vo b) b (b + 21) μ F G) (h : f_Own_idle j0 μ = some o) : Mt g (d + 0) m_Own_idle [.inr (0, off 60 j0)] (G, nx) 0 0 (pRO (rI o) (G, nx)) := by
  unfold f_Own_idle at h
  have kE : ∀ v, o = v → pRO (rI o) (G, nx) = pRO (rI v) (G, nx) := fun v e => by subst e; rfl
  refine Mt.of9 [some (.inr (0, off 60 j0)), none] (by decide +kernel) rfl rfl rfl rfl ?_
  refine cw_iconst 0 d_Own_idle_0 rfl ?_
  refine cw_istoreN_n 1 0 rfl [some (.inr (0, off 60 j0)), some (.inl (.int 0))] d_Own_idle_1 rfl rfl rfl ?_
  obtain ⟨q1, hl, h⟩ := bind_some9 h
  refine it_ev (W := fun (s : Int32) => Ev g (d + 0) m_Own_idle 2 [some (.inr (0, off 60 j0)), some (.inl (.int s))] [] (G, nx) 0 0 (pRO (rI o) (G, nx))) (X := fun z => z = q1) rfl (fun s9 o9 hs kC9 kX9 => ?_) LIM _ hl
  refine ws_Own_idle_2 d hv0 hG hs kC9 (fun r_ e => ?_)
  · obtain rfl := (kX9 _ e).symm
    refine ev_iload_n (k0 := 1) rfl d_Own_idle_25 ?_
    have hP := kE _ (Option.some.inj h).symm
    exact ev_ireturn (st := []) rfl rfl d_Own_idle_26 (by rw [hP]; exact ⟨rfl, rfl⟩)

/-- ProphecyShopLaw$Own.idles -/
def s_Own_idles_4 (j0 : Nat) (x1 : Int32) (x2 : Int32) (μ : Mem) : Option ((Int32 × Int32) ⊕ (Int32)) :=
  if (μ 60 j0 9) ≤ x2 then (some (.inr x1)) else (chk (inb x2 5) (if (μ 64 j0 x2.toNatClampNeg) = 0 then (nm (x1 + 1 : Int32) (fun v3 => some (.inl ((v3, x2 + 1))))) else (nm (x1 + 0 : Int32) (fun v2 => some (.inl ((v2, x2 + 1)))))))
def f_Own_idles (j0 : Nat) (μ : Mem) : Option (Int32) :=
  (it (fun (s : Int32 × Int32) => s_Own_idles_4 j0 s.1 s.2 μ) LIM ((0, 0))).bind (fun q1 => some q1)
set_option maxRecDepth 100000 in
set_option maxHeartbeats 4000000 in
theorem ws_Own_idles_4 {g : GL} {F G : RG} {b nx mc ms : Nat} {Post : RO → RM → Prop} (d : Nat) {j0 : Nat} {x1 : Int32} {x2 : Int32} {μ : Mem} (hv0 : (vo b) 60 j0)  {o : (Int32 × Int32) ⊕ (Int32)} (hG : LM (vo b) b (b + 21) μ F G) (h : s_Own_idles_4 j0 x1 x2 μ = some o)
    (kC : ∀ s', o = .inl s' → Ev g (d + 0) m_Own_idles 4 [some (.inr (0, off 60 j0)), some (.inl (.int s'.1)), some (.inl (.int s'.2))] [] (G, nx) mc ms Post)
    (kX : ∀ r, o = .inr r → Ev g (d + 0) m_Own_idles 35 [none, some (.inl (.int r)), none] [] (G, nx) mc ms Post)
    : Ev g (d + 0) m_Own_idles 4 [some (.inr (0, off 60 j0)), some (.inl (.int x1)), some (.inl (.int x2))] [] (G, nx) mc ms Post := by
  unfold s_Own_idles_4 at h
  refine ev_iload_n (k0 := 2) rfl d_Own_idles_4 ?_
  refine ev_aload_n (k0 := 0) rfl d_Own_idles_5 ?_
  refine cv_get9 (.inl (.int (μ 60 j0 9))) hG hv0 fg_Own_100_60 rfl rfl d_Own_idles_6 ?_
  refine ev_icmp_ge (tgt := 35) (by decide) d_Own_idles_9 (fun c => ?_) (fun c => ?_)
  · rw [if_pos c] at h
    exact Ev.sub (.n (.s (.n LSb.z))) (kX _ (Option.some.inj h).symm)
  · rw [if_neg c] at h
    refine ev_iload_n (k0 := 1) rfl d_Own_idles_12 ?_
    refine ev_aload_n (k0 := 0) rfl d_Own_idles_13 ?_
    refine cv_get9 (.inr (0, off 64 j0)) hG hv0 fg_Own_19_60 rfl rfl d_Own_idles_14 ?_
    refine ev_iload_n (k0 := 2) rfl d_Own_idles_17 ?_
    obtain ⟨b1, h⟩ := chk_some h
    refine cv_iald hG (tv_60_18 hv0) rfl rfl b1 rfl d_Own_idles_18 ?_
    refine ev_if_ne (tgt := 26) (by decide) d_Own_idles_19 (fun c => ?_) (fun c => ?_)
    · rw [if_neg c] at h
      refine cw_iconst 0 d_Own_idles_26 rfl ?_
      refine ev_iadd d_Own_idles_27 ?_
      obtain ⟨v2, e_v2, h⟩ := nm_some h
      refine cw_istoreN_n 1 v2 e_v2 [some (.inr (0, off 60 j0)), some (.inl (.int v2)), some (.inl (.int x2))] d_Own_idles_28 rfl rfl rfl ?_
      refine cw_iincN 2 1 [some (.inr (0, off 60 j0)), some (.inl (.int v2)), some (.inl (.int (x2 + 1)))] d_Own_idles_29 rfl rfl rfl rfl rfl ?_
      refine ev_goto (tgt := 4) (by decide) d_Own_idles_32 ?_
      exact kC _ (Option.some.inj h).symm
    · rw [if_pos c] at h
      refine cw_iconst 1 d_Own_idles_22 rfl ?_
      refine ev_goto (tgt := 27) (by decide) d_Own_idles_23 ?_
      refine ev_iadd d_Own_idles_27 ?_
      obtain ⟨v3, e_v3, h⟩ := nm_some h
      refine cw_istoreN_n 1 v3 e_v3 [some (.inr (0, off 60 j0)), some (.inl (.int v3)), some (.inl (.int x2))] d_Own_idles_28 rfl rfl rfl ?_
      refine cw_iincN 2 1 [some (.inr (0, off 60 j0)), some (.inl (.int v3)), some (.inl (.int (x2 + 1)))] d_Own_idles_29 rfl rfl rfl rfl rfl ?_
      refine ev_goto (tgt := 4) (by decide) d_Own_idles_32 ?_
      exact kC _ (Option.some.inj h).symm
set_option maxRecDepth 100000 in
set_option maxHeartbeats 4000000 in
theorem w_Own_idles {g : GL} {F G : RG} {b nx : Nat} (d : Nat) {j0 : Nat} {μ : Mem} (hv0 : (vo b) 60 j0)  {o : Int32} (hG : LM (vo b) b (b + 21) μ F G) (h : f_Own_idles j0 μ = some o) : Mt g (d + 0) m_Own_idles [.inr (0, off 60 j0)] (G, nx) 0 0 (pRO (rI o) (G, nx)) := by
  unfold f_Own_idles at h
  have kE : ∀ v, o = v → pRO (rI o) (G, nx) = pRO (rI v) (G, nx) := fun v e => by subst e; rfl
  refine Mt.of9 [some (.inr (0, off 60 j0)), none, none] (by decide +kernel) rfl rfl rfl rfl ?_
  refine cw_iconst 0 d_Own_idles_0 rfl ?_
  refine cw_istoreN_n 1 0 rfl [some (.inr (0, off 60 j0)), some (.inl (.int 0)), none] d_Own_idles_1 rfl rfl rfl ?_
  refine cw_iconst 0 d_Own_idles_2 rfl ?_
  refine cw_istoreN_n 2 0 rfl [some (.inr (0, off 60 j0)), some (.inl (.int 0)), some (.inl (.int 0))] d_Own_idles_3 rfl rfl rfl ?_
  obtain ⟨q1, hl, h⟩ := bind_some9 h
  refine it_ev (W := fun (s : Int32 × Int32) => Ev g (d + 0) m_Own_idles 4 [some (.inr (0, off 60 j0)), some (.inl (.int s.1)), some (.inl (.int s.2))] [] (G, nx) 0 0 (pRO (rI o) (G, nx))) (X := fun z => z = q1) rfl (fun s9 o9 hs kC9 kX9 => ?_) LIM _ hl
  refine ws_Own_idles_4 d hv0 hG hs kC9 (fun r_ e => ?_)
  · obtain rfl := (kX9 _ e).symm
    refine ev_iload_n (k0 := 1) rfl d_Own_idles_35 ?_
    have hP := kE _ (Option.some.inj h).symm
    exact ev_ireturn (st := []) rfl rfl d_Own_idles_36 (by rw [hP]; exact ⟨rfl, rfl⟩)

/-- ProphecyShopLaw$Own.many -/
def s_Own_many_4 (j0 : Nat) (x1 : Int32) (x2 : Int32) (x3 : Int32) (μ : Mem) : Option ((Int32 × Int32) ⊕ (Int32)) :=
  if (μ 60 j0 10) ≤ x3 then (some (.inr x2)) else (chk (inb x3 24) (if (μ 74 j0 x3.toNatClampNeg) = x1 then (nm (x2 + 1 : Int32) (fun v3 => some (.inl ((v3, x3 + 1))))) else (nm (x2 + 0 : Int32) (fun v2 => some (.inl ((v2, x3 + 1)))))))
def f_Own_many (j0 : Nat) (x1 : Int32) (μ : Mem) : Option (Int32) :=
  (it (fun (s : Int32 × Int32) => s_Own_many_4 j0 x1 s.1 s.2 μ) LIM ((0, 0))).bind (fun q1 => some q1)
set_option maxRecDepth 100000 in
set_option maxHeartbeats 4000000 in
theorem ws_Own_many_4 {g : GL} {F G : RG} {b nx mc ms : Nat} {Post : RO → RM → Prop} (d : Nat) {j0 : Nat} {x1 : Int32} {x2 : Int32} {x3 : Int32} {μ : Mem} (hv0 : (vo b) 60 j0)  {o : (Int32 × Int32) ⊕ (Int32)} (hG : LM (vo b) b (b + 21) μ F G) (h : s_Own_many_4 j0 x1 x2 x3 μ = some o)
    (kC : ∀ s', o = .inl s' → Ev g (d + 0) m_Own_many 4 [some (.inr (0, off 60 j0)), some (.inl (.int x1)), some (.inl (.int s'.1)), some (.inl (.int s'.2))] [] (G, nx) mc ms Post)
    (kX : ∀ r, o = .inr r → Ev g (d + 0) m_Own_many 36 [none, none, some (.inl (.int r)), none] [] (G, nx) mc ms Post)
    : Ev g (d + 0) m_Own_many 4 [some (.inr (0, off 60 j0)), some (.inl (.int x1)), some (.inl (.int x2)), some (.inl (.int x3))] [] (G, nx) mc ms Post := by
  unfold s_Own_many_4 at h
  refine ev_iload_n (k0 := 3) rfl d_Own_many_4 ?_
  refine ev_aload_n (k0 := 0) rfl d_Own_many_5 ?_
  refine cv_get9 (.inl (.int (μ 60 j0 10))) hG hv0 fg_Own_103_60 rfl rfl d_Own_many_6 ?_
  refine ev_icmp_ge (tgt := 36) (by decide) d_Own_many_9 (fun c => ?_) (fun c => ?_)
  · rw [if_pos c] at h
    exact Ev.sub (.n (.n (.s (.n LSb.z)))) (kX _ (Option.some.inj h).symm)
  · rw [if_neg c] at h
    refine ev_iload_n (k0 := 2) rfl d_Own_many_12 ?_
    refine ev_aload_n (k0 := 0) rfl d_Own_many_13 ?_
    refine cv_get9 (.inr (0, off 74 j0)) hG hv0 fg_Own_49_60 rfl rfl d_Own_many_14 ?_
    refine ev_iload_n (k0 := 3) rfl d_Own_many_17 ?_
    obtain ⟨b1, h⟩ := chk_some h
    refine cv_iald hG (tv_60_28 hv0) rfl rfl b1 rfl d_Own_many_18 ?_
    refine ev_iload_n (k0 := 1) rfl d_Own_many_19 ?_
    refine ev_icmp_ne (tgt := 27) (by decide) d_Own_many_20 (fun c => ?_) (fun c => ?_)
    · rw [if_neg c] at h
      refine cw_iconst 0 d_Own_many_27 rfl ?_
      refine ev_iadd d_Own_many_28 ?_
      obtain ⟨v2, e_v2, h⟩ := nm_some h
      refine cw_istoreN_n 2 v2 e_v2 [some (.inr (0, off 60 j0)), some (.inl (.int x1)), some (.inl (.int v2)), some (.inl (.int x3))] d_Own_many_29 rfl rfl rfl ?_
      refine cw_iincN 3 1 [some (.inr (0, off 60 j0)), some (.inl (.int x1)), some (.inl (.int v2)), some (.inl (.int (x3 + 1)))] d_Own_many_30 rfl rfl rfl rfl rfl ?_
      refine ev_goto (tgt := 4) (by decide) d_Own_many_33 ?_
      exact kC _ (Option.some.inj h).symm
    · rw [if_pos c] at h
      refine cw_iconst 1 d_Own_many_23 rfl ?_
      refine ev_goto (tgt := 28) (by decide) d_Own_many_24 ?_
      refine ev_iadd d_Own_many_28 ?_
      obtain ⟨v3, e_v3, h⟩ := nm_some h
      refine cw_istoreN_n 2 v3 e_v3 [some (.inr (0, off 60 j0)), some (.inl (.int x1)), some (.inl (.int v3)), some (.inl (.int x3))] d_Own_many_29 rfl rfl rfl ?_
      refine cw_iincN 3 1 [some (.inr (0, off 60 j0)), some (.inl (.int x1)), some (.inl (.int v3)), some (.inl (.int (x3 + 1)))] d_Own_many_30 rfl rfl rfl rfl rfl ?_
      refine ev_goto (tgt := 4) (by decide) d_Own_many_33 ?_
      exact kC _ (Option.some.inj h).symm
set_option maxRecDepth 100000 in
set_option maxHeartbeats 4000000 in
theorem w_Own_many {g : GL} {F G : RG} {b nx : Nat} (d : Nat) {j0 : Nat} {x1 : Int32} {μ : Mem} (hv0 : (vo b) 60 j0)  {o : Int32} (hG : LM (vo b) b (b + 21) μ F G) (h : f_Own_many j0 x1 μ = some o) : Mt g (d + 0) m_Own_many [.inr (0, off 60 j0), .inl (.int x1)] (G, nx) 0 0 (pRO (rI o) (G, nx)) := by
  unfold f_Own_many at h
  have kE : ∀ v, o = v → pRO (rI o) (G, nx) = pRO (rI v) (G, nx) := fun v e => by subst e; rfl
  refine Mt.of9 [some (.inr (0, off 60 j0)), some (.inl (.int x1)), none, none] (by decide +kernel) rfl rfl rfl rfl ?_
  refine cw_iconst 0 d_Own_many_0 rfl ?_
  refine cw_istoreN_n 2 0 rfl [some (.inr (0, off 60 j0)), some (.inl (.int x1)), some (.inl (.int 0)), none] d_Own_many_1 rfl rfl rfl ?_
  refine cw_iconst 0 d_Own_many_2 rfl ?_
  refine cw_istoreN_n 3 0 rfl [some (.inr (0, off 60 j0)), some (.inl (.int x1)), some (.inl (.int 0)), some (.inl (.int 0))] d_Own_many_3 rfl rfl rfl ?_
  obtain ⟨q1, hl, h⟩ := bind_some9 h
  refine it_ev (W := fun (s : Int32 × Int32) => Ev g (d + 0) m_Own_many 4 [some (.inr (0, off 60 j0)), some (.inl (.int x1)), some (.inl (.int s.1)), some (.inl (.int s.2))] [] (G, nx) 0 0 (pRO (rI o) (G, nx))) (X := fun z => z = q1) rfl (fun s9 o9 hs kC9 kX9 => ?_) LIM _ hl
  refine ws_Own_many_4 d hv0 hG hs kC9 (fun r_ e => ?_)
  · obtain rfl := (kX9 _ e).symm
    refine ev_iload_n (k0 := 2) rfl d_Own_many_36 ?_
    have hP := kE _ (Option.some.inj h).symm
    exact ev_ireturn (st := []) rfl rfl d_Own_many_37 (by rw [hP]; exact ⟨rfl, rfl⟩)

/-- ProphecyShopLaw$Own.passes -/
def s_Own_passes_12 (j0 : Nat) (x1 : Int32) (μ : Mem) : Option ((Int32 × Mem) ⊕ (Mem)) :=
  if (μ 60 j0 10) ≤ x1 then (some (.inr μ)) else (chk (inb x1 24) (if (μ 74 j0 x1.toNatClampNeg) = 0 then (chk (inb x1 24) (if (μ 72 j0 x1.toNatClampNeg) < (μ 60 j0 5) then (chk (inb x1 24) (((if (μ 78 j0 x1.toNatClampNeg) = 0 then (some (2)) else (some (1)) : Option (Int32))).bind (fun q4 => chk (inb x1 24) (nm (st3 μ 74 j0 x1.toNatClampNeg q4) (fun μ6 => chk (inb x1 24) (nm (st3 μ6 75 j0 x1.toNatClampNeg (μ6 60 j0 5)) (fun μ8 => some (.inl ((x1 + 1, μ8)))))))))) else (some (.inl ((x1 + 1, μ)))))) else (some (.inl ((x1 + 1, μ))))))
def s_Own_passes_83 (j0 : Nat) (x1 : Int32) (μ : Mem) : Option ((Int32 × Mem) ⊕ (Mem)) :=
  if (μ 60 j0 9) ≤ x1 then (some (.inr μ)) else (chk (inb x1 5) (((if (μ 64 j0 x1.toNatClampNeg) = 1 then (some (1)) else (some (0)) : Option (Int32))).bind (fun q2 => chk (inb x1 5) (chk (inb x1 5) (((if (μ 64 j0 x1.toNatClampNeg) ≤ 0 then (some (0)) else (some (1)) : Option (Int32))).bind (fun q5 => chk (inb x1 5) (nm (st3 μ 64 j0 x1.toNatClampNeg ((μ 64 j0 x1.toNatClampNeg) - q5)) (fun μ7 => if q2 = 0 then (some (.inl ((x1 + 1, μ7)))) else (chk (inb x1 5) (if (0 : Int32) ≤ (μ7 66 j0 x1.toNatClampNeg) then (chk (inb x1 5) (chk (inb (μ7 66 j0 x1.toNatClampNeg) 8) (chk (inb x1 5) (chk (inb (μ7 66 j0 x1.toNatClampNeg) 8) (nm (st3 μ7 61 j0 (μ7 66 j0 x1.toNatClampNeg).toNatClampNeg ((μ7 61 j0 (μ7 66 j0 x1.toNatClampNeg).toNatClampNeg) + (μ7 65 j0 x1.toNatClampNeg))) (fun μ13 => chk (inb x1 5) (nm (st3 μ13 65 j0 x1.toNatClampNeg 0) (fun μ15 => chk (inb x1 5) (nm (st3 μ15 66 j0 x1.toNatClampNeg ((-1))) (fun μ17 => chk (inb x1 5) (chk (inb x1 5) (nm (st3 μ17 64 j0 x1.toNatClampNeg (μ17 67 j0 x1.toNatClampNeg)) (fun μ20 => some (.inl ((x1 + 1, μ20)))))))))))))))) else (some (.inl ((x1 + 1, μ7))))))))))))))
def s_Own_passes_279 (j0 : Nat) (x1 : Int32) (x2 : Int32) (x3 : Int32) (x4 : Int32) (x5 : Int32) (μ : Mem) : Option ((Int32 × Mem) ⊕ (Mem)) :=
  if (μ 60 j0 12) ≤ x5 then (some (.inr μ)) else (chk (inb (x5 + 1) 24) (chk (inb x5 24) (nm (st3 μ 77 j0 x5.toNatClampNeg (μ 77 j0 (x5 + 1).toNatClampNeg)) (fun μ3 => some (.inl ((x5 + 1, μ3)))))))
def s_Own_passes_200 (j0 : Nat) (x1 : Int32) (μ : Mem) : Option ((Int32 × Mem) ⊕ ((Mem) ⊕ (Mem))) :=
  if (μ 60 j0 1) ≤ x1 then (some (.inr (.inl μ))) else (if (μ 60 j0 12) ≤ 0 then (some (.inr (.inl μ))) else (chk (inb 0 24) (nm (μ 77 j0 (0 : Int32).toNatClampNeg : Int32) (fun v2 => ((f_Own_expected j0 v2 μ)).bind (fun r3 => ((f_Own_idle j0 μ)).bind (fun r4 => ((if r3 = 1 then (if r4 = (μ 60 j0 9) then (some (.inr μ)) else (some (.inl (())))) else (some (.inl (()))) : Option (Unit ⊕ (Mem)))).bind (fun q5 => els q5 (fun r6 => chk (inb v2 24) (nm (st3 μ 76 j0 v2.toNatClampNeg r3) (fun μ8 => nm (st3 μ8 60 j0 13 ((μ8 60 j0 13) + 1)) (fun μ9 => nm (st3 μ9 60 j0 12 ((μ9 60 j0 12) - 1)) (fun μ10 => (it (fun (s : Int32 × Mem) => s_Own_passes_279 j0 x1 v2 r3 r4 s.1 s.2) LIM ((0, μ10))).bind (fun q11 => if r3 = 1 then (chk (inb v2 24) (chk (inb (q11 68 j0 v2.toNatClampNeg) 8) (chk (inb r4 5) (chk (decide (¬ (q11 63 j0 r4.toNatClampNeg) = 0)) (chk (inb v2 24) (chk (inb (q11 68 j0 v2.toNatClampNeg) 8) (chk (inb r4 5) (chk (decide (¬ (q11 63 j0 r4.toNatClampNeg) = 0)) (((if ((q11 62 j0 (q11 68 j0 v2.toNatClampNeg).toNatClampNeg) - (q11 62 j0 (q11 68 j0 v2.toNatClampNeg).toNatClampNeg) / (q11 63 j0 r4.toNatClampNeg) * (q11 63 j0 r4.toNatClampNeg)) ≤ 0 then (some (0)) else (some (1)) : Option (Int32))).bind (fun q20 => chk (inb r4 5) (nm (st3 q11 67 j0 r4.toNatClampNeg (((q11 62 j0 (q11 68 j0 v2.toNatClampNeg).toNatClampNeg) / (q11 63 j0 r4.toNatClampNeg)) + q20)) (fun μ22 => chk (inb r4 5) (chk (inb r4 5) (nm (st3 μ22 64 j0 r4.toNatClampNeg (μ22 67 j0 r4.toNatClampNeg)) (fun μ25 => ((f_Own_refund j0 v2 μ25)).bind (fun r26 => chk (inb r4 5) (nm (st3 μ25 65 j0 r4.toNatClampNeg r26) (fun μ28 => chk (inb v2 24) (chk (inb r4 5) (nm (st3 μ28 66 j0 r4.toNatClampNeg (μ28 68 j0 v2.toNatClampNeg)) (fun μ31 => chk (inb r4 5) (nm (st3 μ31 60 j0 0 ((μ31 60 j0 0) - (μ31 65 j0 r4.toNatClampNeg))) (fun μ33 => chk (inb r4 5) (nm (st3 μ33 60 j0 14 ((μ33 60 j0 14) + (μ33 65 j0 r4.toNatClampNeg))) (fun μ35 => chk (inb v2 24) (nm (st3 μ35 74 j0 v2.toNatClampNeg 3) (fun μ37 => some (.inl ((x1 + 1, μ37)))))))))))))))))))))))))))))) else (some (.inl ((x1 + 1, q11)))))))))) (fun v => some (.inr (.inr v))))))))))
def f_Own_passes (j0 : Nat) (μ : Mem) : Option (Mem) :=
  nm (st3 μ 60 j0 5 ((μ 60 j0 5) + 1)) (fun μ1 => (it (fun (s : Int32 × Mem) => s_Own_passes_12 j0 s.1 s.2) LIM ((0, μ1))).bind (fun q2 => (it (fun (s : Int32 × Mem) => s_Own_passes_83 j0 s.1 s.2) LIM ((0, q2))).bind (fun q3 => (it (fun (s : Int32 × Mem) => s_Own_passes_200 j0 s.1 s.2) LIM ((0, q3))).bind (fun q4 => els q4 (fun r5 => some r5) (fun v => some v)))))
set_option maxRecDepth 100000 in
set_option maxHeartbeats 4000000 in
theorem ws_Own_passes_12 {g : GL} {F G : RG} {b nx mc ms : Nat} {Post : RO → RM → Prop} (d : Nat) {j0 : Nat} {x1 : Int32} {μ : Mem} (hv0 : (vo b) 60 j0)  {o : (Int32 × Mem) ⊕ (Mem)} (hG : LM (vo b) b (b + 21) μ F G) (h : s_Own_passes_12 j0 x1 μ = some o)
    (kC : ∀ s', o = .inl s' → ∀ G, LM (vo b) b (b + 21) s'.2 F G → Ev g (d + 2) m_Own_passes 12 [some (.inr (0, off 60 j0)), some (.inl (.int s'.1)), none, none, none, none] [] (G, nx) mc ms Post)
    (kX : ∀ r, o = .inr r → ∀ G, LM (vo b) b (b + 21) r F G → Ev g (d + 2) m_Own_passes 81 [some (.inr (0, off 60 j0)), none, none, none, none, none] [] (G, nx) mc ms Post)
    : Ev g (d + 2) m_Own_passes 12 [some (.inr (0, off 60 j0)), some (.inl (.int x1)), none, none, none, none] [] (G, nx) mc ms Post := by
  unfold s_Own_passes_12 at h
  refine ev_iload_n (k0 := 1) rfl d_Own_passes_12 ?_
  refine ev_aload_n (k0 := 0) rfl d_Own_passes_13 ?_
  refine cv_get9 (.inl (.int (μ 60 j0 10))) hG hv0 fg_Own_103_60 rfl rfl d_Own_passes_14 ?_
  refine ev_icmp_ge (tgt := 81) (by decide) d_Own_passes_17 (fun c => ?_) (fun c => ?_)
  · rw [if_pos c] at h
    exact Ev.sub (.s (.n (.n (.n (.n (.n LSb.z)))))) (kX _ (Option.some.inj h).symm G hG)
  · rw [if_neg c] at h
    refine ev_aload_n (k0 := 0) rfl d_Own_passes_20 ?_
    refine cv_get9 (.inr (0, off 74 j0)) hG hv0 fg_Own_49_60 rfl rfl d_Own_passes_21 ?_
    refine ev_iload_n (k0 := 1) rfl d_Own_passes_24 ?_
    obtain ⟨b1, h⟩ := chk_some h
    refine cv_iald hG (tv_60_28 hv0) rfl rfl b1 rfl d_Own_passes_25 ?_
    refine ev_if_ne (tgt := 75) (by decide) d_Own_passes_26 (fun c => ?_) (fun c => ?_)
    · rw [if_neg c] at h
      refine cw_iincN 1 1 [some (.inr (0, off 60 j0)), some (.inl (.int (x1 + 1))), none, none, none, none] d_Own_passes_75 rfl rfl rfl rfl rfl ?_
      refine ev_goto (tgt := 12) (by decide) d_Own_passes_78 ?_
      exact kC _ (Option.some.inj h).symm G hG
    · rw [if_pos c] at h
      refine ev_aload_n (k0 := 0) rfl d_Own_passes_29 ?_
      refine cv_get9 (.inl (.int (μ 60 j0 5))) hG hv0 fg_Own_88_60 rfl rfl d_Own_passes_30 ?_
      refine ev_aload_n (k0 := 0) rfl d_Own_passes_33 ?_
      refine cv_get9 (.inr (0, off 72 j0)) hG hv0 fg_Own_43_60 rfl rfl d_Own_passes_34 ?_
      refine ev_iload_n (k0 := 1) rfl d_Own_passes_37 ?_
      obtain ⟨b2, h⟩ := chk_some h
      refine cv_iald hG (tv_60_26 hv0) rfl rfl b2 rfl d_Own_passes_38 ?_
      refine ev_icmp_gt (tgt := 45) (by decide) d_Own_passes_39 (fun c => ?_) (fun c => ?_)
      · rw [if_pos c] at h
        refine ev_aload_n (k0 := 0) rfl d_Own_passes_45 ?_
        refine cv_get9 (.inr (0, off 74 j0)) hG hv0 fg_Own_49_60 rfl rfl d_Own_passes_46 ?_
        refine ev_iload_n (k0 := 1) rfl d_Own_passes_49 ?_
        refine ev_aload_n (k0 := 0) rfl d_Own_passes_50 ?_
        refine cv_get9 (.inr (0, off 78 j0)) hG hv0 fg_Own_61_60 rfl rfl d_Own_passes_51 ?_
        refine ev_iload_n (k0 := 1) rfl d_Own_passes_54 ?_
        obtain ⟨b3, h⟩ := chk_some h
        refine cv_zald hG (tv_60_32 hv0) rfl rfl b3 rfl d_Own_passes_55 ?_
        obtain ⟨q4, hj, h⟩ := bind_some9 h
        have K_q4 : Ev g (d + 2) m_Own_passes 64 [some (.inr (0, off 60 j0)), some (.inl (.int x1)), none, none, none, none] [.inl (.int q4), .inl (.int x1), .inr (0, off 74 j0)] (G, nx) mc ms Post := by
          obtain ⟨b5, h⟩ := chk_some h
          obtain ⟨μ6, e_μ6, h⟩ := nm_some h
          refine cv_iast hG okO (tv_60_28 hv0) rfl rfl b5 rfl d_Own_passes_64 ?_
          intro G hG; rw [← e_μ6] at hG
          refine ev_aload_n (k0 := 0) rfl d_Own_passes_65 ?_
          refine cv_get9 (.inr (0, off 75 j0)) hG hv0 fg_Own_52_60 rfl rfl d_Own_passes_66 ?_
          refine ev_iload_n (k0 := 1) rfl d_Own_passes_69 ?_
          refine ev_aload_n (k0 := 0) rfl d_Own_passes_70 ?_
          refine cv_get9 (.inl (.int (μ6 60 j0 5))) hG hv0 fg_Own_88_60 rfl rfl d_Own_passes_71 ?_
          obtain ⟨b7, h⟩ := chk_some h
          obtain ⟨μ8, e_μ8, h⟩ := nm_some h
          refine cv_iast hG okO (tv_60_29 hv0) rfl rfl b7 rfl d_Own_passes_74 ?_
          intro G hG; rw [← e_μ8] at hG
          refine cw_iincN 1 1 [some (.inr (0, off 60 j0)), some (.inl (.int (x1 + 1))), none, none, none, none] d_Own_passes_75 rfl rfl rfl rfl rfl ?_
          refine ev_goto (tgt := 12) (by decide) d_Own_passes_78 ?_
          exact kC _ (Option.some.inj h).symm G hG
        clear h
        have h := hj
        refine ev_if_eq (tgt := 63) (by decide) d_Own_passes_56 (fun c => ?_) (fun c => ?_)
        · rw [if_pos c] at h
          refine cw_iconst 2 d_Own_passes_63 rfl ?_
          obtain rfl := Option.some.inj h
          exact K_q4
        · rw [if_neg c] at h
          refine cw_iconst 1 d_Own_passes_59 rfl ?_
          refine ev_goto (tgt := 64) (by decide) d_Own_passes_60 ?_
          obtain rfl := Option.some.inj h
          exact K_q4
      · rw [if_neg c] at h
        refine ev_goto (tgt := 75) (by decide) d_Own_passes_42 ?_
        refine cw_iincN 1 1 [some (.inr (0, off 60 j0)), some (.inl (.int (x1 + 1))), none, none, none, none] d_Own_passes_75 rfl rfl rfl rfl rfl ?_
        refine ev_goto (tgt := 12) (by decide) d_Own_passes_78 ?_
        exact kC _ (Option.some.inj h).symm G hG
set_option maxRecDepth 100000 in
set_option maxHeartbeats 4000000 in
theorem ws_Own_passes_83 {g : GL} {F G : RG} {b nx mc ms : Nat} {Post : RO → RM → Prop} (d : Nat) {j0 : Nat} {x1 : Int32} {μ : Mem} (hv0 : (vo b) 60 j0)  {o : (Int32 × Mem) ⊕ (Mem)} (hG : LM (vo b) b (b + 21) μ F G) (h : s_Own_passes_83 j0 x1 μ = some o)
    (kC : ∀ s', o = .inl s' → ∀ G, LM (vo b) b (b + 21) s'.2 F G → Ev g (d + 2) m_Own_passes 83 [some (.inr (0, off 60 j0)), some (.inl (.int s'.1)), none, none, none, none] [] (G, nx) mc ms Post)
    (kX : ∀ r, o = .inr r → ∀ G, LM (vo b) b (b + 21) r F G → Ev g (d + 2) m_Own_passes 198 [some (.inr (0, off 60 j0)), none, none, none, none, none] [] (G, nx) mc ms Post)
    : Ev g (d + 2) m_Own_passes 83 [some (.inr (0, off 60 j0)), some (.inl (.int x1)), none, none, none, none] [] (G, nx) mc ms Post := by
  unfold s_Own_passes_83 at h
  refine ev_iload_n (k0 := 1) rfl d_Own_passes_83 ?_
  refine ev_aload_n (k0 := 0) rfl d_Own_passes_84 ?_
  refine cv_get9 (.inl (.int (μ 60 j0 9))) hG hv0 fg_Own_100_60 rfl rfl d_Own_passes_85 ?_
  refine ev_icmp_ge (tgt := 198) (by decide) d_Own_passes_88 (fun c => ?_) (fun c => ?_)
  · rw [if_pos c] at h
    exact Ev.sub (.s (.n (.n (.n (.n (.n LSb.z)))))) (kX _ (Option.some.inj h).symm G hG)
  · rw [if_neg c] at h
    refine ev_aload_n (k0 := 0) rfl d_Own_passes_91 ?_
    refine cv_get9 (.inr (0, off 64 j0)) hG hv0 fg_Own_19_60 rfl rfl d_Own_passes_92 ?_
    refine ev_iload_n (k0 := 1) rfl d_Own_passes_95 ?_
    obtain ⟨b1, h⟩ := chk_some h
    refine cv_iald hG (tv_60_18 hv0) rfl rfl b1 rfl d_Own_passes_96 ?_
    refine cw_iconst 1 d_Own_passes_97 rfl ?_
    obtain ⟨q2, hj, h⟩ := bind_some9 h
    have K_q2 : Ev g (d + 2) m_Own_passes 106 [some (.inr (0, off 60 j0)), some (.inl (.int x1)), none, none, none, none] [.inl (.int q2)] (G, nx) mc ms Post := by
      refine cw_istoreN_n 2 q2 rfl [some (.inr (0, off 60 j0)), some (.inl (.int x1)), some (.inl (.int q2)), none, none, none] d_Own_passes_106 rfl rfl rfl ?_
      refine ev_aload_n (k0 := 0) rfl d_Own_passes_107 ?_
      refine cv_get9 (.inr (0, off 64 j0)) hG hv0 fg_Own_19_60 rfl rfl d_Own_passes_108 ?_
      refine ev_iload_n (k0 := 1) rfl d_Own_passes_111 ?_
      refine ev_dup2 rfl rfl d_Own_passes_112 ?_
      obtain ⟨b3, h⟩ := chk_some h
      refine cv_iald hG (tv_60_18 hv0) rfl rfl b3 rfl d_Own_passes_113 ?_
      refine ev_aload_n (k0 := 0) rfl d_Own_passes_114 ?_
      refine cv_get9 (.inr (0, off 64 j0)) hG hv0 fg_Own_19_60 rfl rfl d_Own_passes_115 ?_
      refine ev_iload_n (k0 := 1) rfl d_Own_passes_118 ?_
      obtain ⟨b4, h⟩ := chk_some h
      refine cv_iald hG (tv_60_18 hv0) rfl rfl b4 rfl d_Own_passes_119 ?_
      obtain ⟨q5, hj, h⟩ := bind_some9 h
      have K_q5 : Ev g (d + 2) m_Own_passes 128 [some (.inr (0, off 60 j0)), some (.inl (.int x1)), some (.inl (.int q2)), none, none, none] [.inl (.int q5), .inl (.int (μ 64 j0 x1.toNatClampNeg)), .inl (.int x1), .inr (0, off 64 j0)] (G, nx) mc ms Post := by
        refine ev_isub d_Own_passes_128 ?_
        obtain ⟨b6, h⟩ := chk_some h
        obtain ⟨μ7, e_μ7, h⟩ := nm_some h
        refine cv_iast hG okO (tv_60_18 hv0) rfl rfl b6 rfl d_Own_passes_129 ?_
        intro G hG; rw [← e_μ7] at hG
        refine ev_iload_n (k0 := 2) rfl d_Own_passes_130 ?_
        refine ev_if_eq (tgt := 192) (by decide) d_Own_passes_131 (fun c => ?_) (fun c => ?_)
        · rw [if_pos c] at h
          refine cw_iincN 1 1 [some (.inr (0, off 60 j0)), some (.inl (.int (x1 + 1))), some (.inl (.int q2)), none, none, none] d_Own_passes_192 rfl rfl rfl rfl rfl ?_
          refine ev_goto (tgt := 83) (by decide) d_Own_passes_195 ?_
          exact Ev.sub (.s (.s (.n (.n (.n (.n LSb.z)))))) (kC _ (Option.some.inj h).symm G hG)
        · rw [if_neg c] at h
          refine ev_aload_n (k0 := 0) rfl d_Own_passes_134 ?_
          refine cv_get9 (.inr (0, off 66 j0)) hG hv0 fg_Own_25_60 rfl rfl d_Own_passes_135 ?_
          refine ev_iload_n (k0 := 1) rfl d_Own_passes_138 ?_
          obtain ⟨b8, h⟩ := chk_some h
          refine cv_iald hG (tv_60_20 hv0) rfl rfl b8 rfl d_Own_passes_139 ?_
          refine ev_if_ge (tgt := 146) (by decide) d_Own_passes_140 (fun c => ?_) (fun c => ?_)
          · rw [if_pos c] at h
            refine ev_aload_n (k0 := 0) rfl d_Own_passes_146 ?_
            refine cv_get9 (.inr (0, off 61 j0)) hG hv0 fg_Own_7_60 rfl rfl d_Own_passes_147 ?_
            refine ev_aload_n (k0 := 0) rfl d_Own_passes_150 ?_
            refine cv_get9 (.inr (0, off 66 j0)) hG hv0 fg_Own_25_60 rfl rfl d_Own_passes_151 ?_
            refine ev_iload_n (k0 := 1) rfl d_Own_passes_154 ?_
            obtain ⟨b9, h⟩ := chk_some h
            refine cv_iald hG (tv_60_20 hv0) rfl rfl b9 rfl d_Own_passes_155 ?_
            refine ev_dup2 rfl rfl d_Own_passes_156 ?_
            obtain ⟨b10, h⟩ := chk_some h
            refine cv_iald hG (tv_60_15 hv0) rfl rfl b10 rfl d_Own_passes_157 ?_
            refine ev_aload_n (k0 := 0) rfl d_Own_passes_158 ?_
            refine cv_get9 (.inr (0, off 65 j0)) hG hv0 fg_Own_22_60 rfl rfl d_Own_passes_159 ?_
            refine ev_iload_n (k0 := 1) rfl d_Own_passes_162 ?_
            refine Ev.at (pc' := 163) rfl ?_
            obtain ⟨b11, h⟩ := chk_some h
            refine cv_iald hG (tv_60_19 hv0) rfl rfl b11 rfl d_Own_passes_163 ?_
            refine ev_iadd d_Own_passes_164 ?_
            obtain ⟨b12, h⟩ := chk_some h
            obtain ⟨μ13, e_μ13, h⟩ := nm_some h
            refine cv_iast hG okO (tv_60_15 hv0) rfl rfl b12 rfl d_Own_passes_165 ?_
            intro G hG; rw [← e_μ13] at hG
            refine ev_aload_n (k0 := 0) rfl d_Own_passes_166 ?_
            refine cv_get9 (.inr (0, off 65 j0)) hG hv0 fg_Own_22_60 rfl rfl d_Own_passes_167 ?_
            refine ev_iload_n (k0 := 1) rfl d_Own_passes_170 ?_
            refine cw_iconst 0 d_Own_passes_171 rfl ?_
            obtain ⟨b14, h⟩ := chk_some h
            obtain ⟨μ15, e_μ15, h⟩ := nm_some h
            refine cv_iast hG okO (tv_60_19 hv0) rfl rfl b14 rfl d_Own_passes_172 ?_
            intro G hG; rw [← e_μ15] at hG
            refine ev_aload_n (k0 := 0) rfl d_Own_passes_173 ?_
            refine cv_get9 (.inr (0, off 66 j0)) hG hv0 fg_Own_25_60 rfl rfl d_Own_passes_174 ?_
            refine ev_iload_n (k0 := 1) rfl d_Own_passes_177 ?_
            refine cw_iconst (-1) d_Own_passes_178 rfl ?_
            refine Ev.at (pc' := 179) rfl ?_
            obtain ⟨b16, h⟩ := chk_some h
            obtain ⟨μ17, e_μ17, h⟩ := nm_some h
            refine cv_iast hG okO (tv_60_20 hv0) rfl rfl b16 rfl d_Own_passes_179 ?_
            intro G hG; rw [← e_μ17] at hG
            refine ev_aload_n (k0 := 0) rfl d_Own_passes_180 ?_
            refine cv_get9 (.inr (0, off 64 j0)) hG hv0 fg_Own_19_60 rfl rfl d_Own_passes_181 ?_
            refine ev_iload_n (k0 := 1) rfl d_Own_passes_184 ?_
            refine ev_aload_n (k0 := 0) rfl d_Own_passes_185 ?_
            refine cv_get9 (.inr (0, off 67 j0)) hG hv0 fg_Own_28_60 rfl rfl d_Own_passes_186 ?_
            refine ev_iload_n (k0 := 1) rfl d_Own_passes_189 ?_
            obtain ⟨b18, h⟩ := chk_some h
            refine cv_iald hG (tv_60_21 hv0) rfl rfl b18 rfl d_Own_passes_190 ?_
            obtain ⟨b19, h⟩ := chk_some h
            obtain ⟨μ20, e_μ20, h⟩ := nm_some h
            refine cv_iast hG okO (tv_60_18 hv0) rfl rfl b19 rfl d_Own_passes_191 ?_
            intro G hG; rw [← e_μ20] at hG
            refine cw_iincN 1 1 [some (.inr (0, off 60 j0)), some (.inl (.int (x1 + 1))), some (.inl (.int q2)), none, none, none] d_Own_passes_192 rfl rfl rfl rfl rfl ?_
            refine ev_goto (tgt := 83) (by decide) d_Own_passes_195 ?_
            exact Ev.sub (.s (.s (.n (.n (.n (.n LSb.z)))))) (kC _ (Option.some.inj h).symm G hG)
          · rw [if_neg c] at h
            refine ev_goto (tgt := 192) (by decide) d_Own_passes_143 ?_
            refine cw_iincN 1 1 [some (.inr (0, off 60 j0)), some (.inl (.int (x1 + 1))), some (.inl (.int q2)), none, none, none] d_Own_passes_192 rfl rfl rfl rfl rfl ?_
            refine ev_goto (tgt := 83) (by decide) d_Own_passes_195 ?_
            exact Ev.sub (.s (.s (.n (.n (.n (.n LSb.z)))))) (kC _ (Option.some.inj h).symm G hG)
      clear h
      have h := hj
      refine ev_if_le (tgt := 127) (by decide) d_Own_passes_120 (fun c => ?_) (fun c => ?_)
      · rw [if_pos c] at h
        refine cw_iconst 0 d_Own_passes_127 rfl ?_
        obtain rfl := Option.some.inj h
        exact K_q5
      · rw [if_neg c] at h
        refine cw_iconst 1 d_Own_passes_123 rfl ?_
        refine ev_goto (tgt := 128) (by decide) d_Own_passes_124 ?_
        obtain rfl := Option.some.inj h
        exact K_q5
    clear h
    have h := hj
    refine ev_icmp_ne (tgt := 105) (by decide) d_Own_passes_98 (fun c => ?_) (fun c => ?_)
    · rw [if_neg c] at h
      refine cw_iconst 0 d_Own_passes_105 rfl ?_
      obtain rfl := Option.some.inj h
      exact K_q2
    · rw [if_pos c] at h
      refine cw_iconst 1 d_Own_passes_101 rfl ?_
      refine ev_goto (tgt := 106) (by decide) d_Own_passes_102 ?_
      obtain rfl := Option.some.inj h
      exact K_q2
set_option maxRecDepth 100000 in
set_option maxHeartbeats 4000000 in
theorem ws_Own_passes_279 {g : GL} {F G : RG} {b nx mc ms : Nat} {Post : RO → RM → Prop} (d : Nat) {j0 : Nat} {x1 : Int32} {x2 : Int32} {x3 : Int32} {x4 : Int32} {x5 : Int32} {μ : Mem} (hv0 : (vo b) 60 j0)  {o : (Int32 × Mem) ⊕ (Mem)} (hG : LM (vo b) b (b + 21) μ F G) (h : s_Own_passes_279 j0 x1 x2 x3 x4 x5 μ = some o)
    (kC : ∀ s', o = .inl s' → ∀ G, LM (vo b) b (b + 21) s'.2 F G → Ev g (d + 2) m_Own_passes 279 [some (.inr (0, off 60 j0)), some (.inl (.int x1)), some (.inl (.int x2)), some (.inl (.int x3)), some (.inl (.int x4)), some (.inl (.int s'.1))] [] (G, nx) mc ms Post)
    (kX : ∀ r, o = .inr r → ∀ G, LM (vo b) b (b + 21) r F G → Ev g (d + 2) m_Own_passes 310 [some (.inr (0, off 60 j0)), some (.inl (.int x1)), some (.inl (.int x2)), some (.inl (.int x3)), some (.inl (.int x4)), none] [] (G, nx) mc ms Post)
    : Ev g (d + 2) m_Own_passes 279 [some (.inr (0, off 60 j0)), some (.inl (.int x1)), some (.inl (.int x2)), some (.inl (.int x3)), some (.inl (.int x4)), some (.inl (.int x5))] [] (G, nx) mc ms Post := by
  unfold s_Own_passes_279 at h
  refine ev_iload (i := 5) rfl d_Own_passes_279 ?_
  refine ev_aload_n (k0 := 0) rfl d_Own_passes_281 ?_
  refine cv_get9 (.inl (.int (μ 60 j0 12))) hG hv0 fg_Own_109_60 rfl rfl d_Own_passes_282 ?_
  refine ev_icmp_ge (tgt := 310) (by decide) d_Own_passes_285 (fun c => ?_) (fun c => ?_)
  · rw [if_pos c] at h
    exact Ev.sub (.s (.s (.s (.s (.s (.n LSb.z)))))) (kX _ (Option.some.inj h).symm G hG)
  · rw [if_neg c] at h
    refine ev_aload_n (k0 := 0) rfl d_Own_passes_288 ?_
    refine cv_get9 (.inr (0, off 77 j0)) hG hv0 fg_Own_58_60 rfl rfl d_Own_passes_289 ?_
    refine ev_iload (i := 5) rfl d_Own_passes_292 ?_
    refine ev_aload_n (k0 := 0) rfl d_Own_passes_294 ?_
    refine cv_get9 (.inr (0, off 77 j0)) hG hv0 fg_Own_58_60 rfl rfl d_Own_passes_295 ?_
    refine ev_iload (i := 5) rfl d_Own_passes_298 ?_
    refine cw_iconst 1 d_Own_passes_300 rfl ?_
    refine ev_iadd d_Own_passes_301 ?_
    obtain ⟨b1, h⟩ := chk_some h
    refine cv_iald hG (tv_60_31 hv0) rfl rfl b1 rfl d_Own_passes_302 ?_
    obtain ⟨b2, h⟩ := chk_some h
    obtain ⟨μ3, e_μ3, h⟩ := nm_some h
    refine cv_iast hG okO (tv_60_31 hv0) rfl rfl b2 rfl d_Own_passes_303 ?_
    intro G hG; rw [← e_μ3] at hG
    refine cw_iincN 5 1 [some (.inr (0, off 60 j0)), some (.inl (.int x1)), some (.inl (.int x2)), some (.inl (.int x3)), some (.inl (.int x4)), some (.inl (.int (x5 + 1)))] d_Own_passes_304 rfl rfl rfl rfl rfl ?_
    refine Ev.at (pc' := 307) rfl ?_
    refine ev_goto (tgt := 279) (by decide) d_Own_passes_307 ?_
    exact kC _ (Option.some.inj h).symm G hG
set_option maxRecDepth 100000 in
set_option maxHeartbeats 4000000 in
theorem ws_Own_passes_200 {g : GL} {F G : RG} {b nx mc ms : Nat} {Post : RO → RM → Prop} (d : Nat) {j0 : Nat} {x1 : Int32} {μ : Mem} (hv0 : (vo b) 60 j0)  {o : (Int32 × Mem) ⊕ ((Mem) ⊕ (Mem))} (hG : LM (vo b) b (b + 21) μ F G) (h : s_Own_passes_200 j0 x1 μ = some o)
    (kC : ∀ s', o = .inl s' → ∀ G, LM (vo b) b (b + 21) s'.2 F G → Ev g (d + 2) m_Own_passes 200 [some (.inr (0, off 60 j0)), some (.inl (.int s'.1)), none, none, none, none] [] (G, nx) mc ms Post)
    (kX : ∀ r, o = .inr (.inl r) → ∀ G, LM (vo b) b (b + 21) r F G → Ev g (d + 2) m_Own_passes 456 [none, none, none, none, none, none] [] (G, nx) mc ms Post)
    (kE : ∀ v, o = .inr (.inr v) → Post = pRW (vo b) b (b + 21) rV v F nx) : Ev g (d + 2) m_Own_passes 200 [some (.inr (0, off 60 j0)), some (.inl (.int x1)), none, none, none, none] [] (G, nx) mc ms Post := by
  unfold s_Own_passes_200 at h
  refine ev_iload_n (k0 := 1) rfl d_Own_passes_200 ?_
  refine ev_aload_n (k0 := 0) rfl d_Own_passes_201 ?_
  refine cv_get9 (.inl (.int (μ 60 j0 1))) hG hv0 fg_Own_76_60 rfl rfl d_Own_passes_202 ?_
  refine ev_icmp_ge (tgt := 456) (by decide) d_Own_passes_205 (fun c => ?_) (fun c => ?_)
  · rw [if_pos c] at h
    exact Ev.sub (.n (.n (.n (.n (.n (.n LSb.z)))))) (kX _ (Option.some.inj h).symm G hG)
  · rw [if_neg c] at h
    refine ev_aload_n (k0 := 0) rfl d_Own_passes_208 ?_
    refine cv_get9 (.inl (.int (μ 60 j0 12))) hG hv0 fg_Own_109_60 rfl rfl d_Own_passes_209 ?_
    refine ev_if_le (tgt := 456) (by decide) d_Own_passes_212 (fun c => ?_) (fun c => ?_)
    · rw [if_pos c] at h
      exact Ev.sub (.n (.n (.n (.n (.n (.n LSb.z)))))) (kX _ (Option.some.inj h).symm G hG)
    · rw [if_neg c] at h
      refine ev_aload_n (k0 := 0) rfl d_Own_passes_215 ?_
      refine cv_get9 (.inr (0, off 77 j0)) hG hv0 fg_Own_58_60 rfl rfl d_Own_passes_216 ?_
      refine cw_iconst 0 d_Own_passes_219 rfl ?_
      obtain ⟨b1, h⟩ := chk_some h
      refine cv_iald hG (tv_60_31 hv0) rfl rfl b1 rfl d_Own_passes_220 ?_
      obtain ⟨v2, e_v2, h⟩ := nm_some h
      refine cw_istoreN_n 2 v2 e_v2 [some (.inr (0, off 60 j0)), some (.inl (.int x1)), some (.inl (.int v2)), none, none, none] d_Own_passes_221 rfl rfl rfl ?_
      refine ev_aload_n (k0 := 0) rfl d_Own_passes_222 ?_
      refine ev_iload_n (k0 := 2) rfl d_Own_passes_223 ?_
      obtain ⟨r3, hr3, h⟩ := bind_some9 h
      refine Ev.z9 ?_
      refine cv_V (d := d + 1) (mc1 := 0) (ms1 := 0) (mc := mc) (ms := ms) [.inl (.int v2)] hG hv0 rfl lk_Own_122 (w_Own_expected (d + 0) hv0 hG hr3) rfl rfl d_Own_passes_224 (aft_ro ?_)
      refine Ev.at (pc' := 227) rfl (Ev.cong (st' := [.inl (.int r3)]) ?_ rfl rfl)
      refine cw_istoreN_n 3 r3 rfl [some (.inr (0, off 60 j0)), some (.inl (.int x1)), some (.inl (.int v2)), some (.inl (.int r3)), none, none] d_Own_passes_227 rfl rfl rfl ?_
      refine ev_aload_n (k0 := 0) rfl d_Own_passes_228 ?_
      obtain ⟨r4, hr4, h⟩ := bind_some9 h
      refine Ev.z9 ?_
      refine cv_V (d := d + 1) (mc1 := 0) (ms1 := 0) (mc := mc) (ms := ms) [] hG hv0 rfl lk_Own_125 (w_Own_idle (d + 1) hv0 hG hr4) rfl rfl d_Own_passes_229 (aft_ro ?_)
      refine Ev.at (pc' := 232) rfl (Ev.cong (st' := [.inl (.int r4)]) ?_ rfl rfl)
      refine cw_istoreN 4 r4 rfl [some (.inr (0, off 60 j0)), some (.inl (.int x1)), some (.inl (.int v2)), some (.inl (.int r3)), some (.inl (.int r4)), none] d_Own_passes_232 rfl rfl rfl ?_
      refine ev_iload_n (k0 := 3) rfl d_Own_passes_234 ?_
      refine cw_iconst 1 d_Own_passes_235 rfl ?_
      obtain ⟨q5, hj, h⟩ := bind_some9 h
      have K_q5 : ∀ r6, q5 = .inl r6 → Ev g (d + 2) m_Own_passes 249 [some (.inr (0, off 60 j0)), some (.inl (.int x1)), some (.inl (.int v2)), some (.inl (.int r3)), some (.inl (.int r4)), none] [] (G, nx) mc ms Post := by
        intro r6 e
        subst e; rw [els_l] at h
        refine ev_aload_n (k0 := 0) rfl d_Own_passes_249 ?_
        refine cv_get9 (.inr (0, off 76 j0)) hG hv0 fg_Own_55_60 rfl rfl d_Own_passes_250 ?_
        refine ev_iload_n (k0 := 2) rfl d_Own_passes_253 ?_
        refine ev_iload_n (k0 := 3) rfl d_Own_passes_254 ?_
        obtain ⟨b7, h⟩ := chk_some h
        obtain ⟨μ8, e_μ8, h⟩ := nm_some h
        refine cv_iast hG okO (tv_60_30 hv0) rfl rfl b7 rfl d_Own_passes_255 ?_
        intro G hG; rw [← e_μ8] at hG
        refine ev_aload_n (k0 := 0) rfl d_Own_passes_256 ?_
        refine ev_dup rfl d_Own_passes_257 ?_
        refine cv_get9 (.inl (.int (μ8 60 j0 13))) hG hv0 fg_Own_112_60 rfl rfl d_Own_passes_258 ?_
        refine cw_iconst 1 d_Own_passes_261 rfl ?_
        refine ev_iadd d_Own_passes_262 ?_
        obtain ⟨μ9, e_μ9, h⟩ := nm_some h
        refine cv_put (.inl (.int ((μ8 60 j0 13) + 1))) ((μ8 60 j0 13) + 1) hG okO hv0 fl_Own_112_60 rfl rfl okv_int d_Own_passes_263 ?_
        intro G hG; rw [← e_μ9] at hG
        refine Ev.at (pc' := 266) rfl ?_
        refine ev_aload_n (k0 := 0) rfl d_Own_passes_266 ?_
        refine ev_dup rfl d_Own_passes_267 ?_
        refine cv_get9 (.inl (.int (μ9 60 j0 12))) hG hv0 fg_Own_109_60 rfl rfl d_Own_passes_268 ?_
        refine cw_iconst 1 d_Own_passes_271 rfl ?_
        refine ev_isub d_Own_passes_272 ?_
        obtain ⟨μ10, e_μ10, h⟩ := nm_some h
        refine cv_put (.inl (.int ((μ9 60 j0 12) - 1))) ((μ9 60 j0 12) - 1) hG okO hv0 fl_Own_109_60 rfl rfl okv_int d_Own_passes_273 ?_
        intro G hG; rw [← e_μ10] at hG
        refine cw_iconst 0 d_Own_passes_276 rfl ?_
        refine cw_istoreN 5 0 rfl [some (.inr (0, off 60 j0)), some (.inl (.int x1)), some (.inl (.int v2)), some (.inl (.int r3)), some (.inl (.int r4)), some (.inl (.int 0))] d_Own_passes_277 rfl rfl rfl ?_
        obtain ⟨q11, hl, h⟩ := bind_some9 h
        refine it_ev (W := fun (s : Int32 × Mem) => ∀ G, LM (vo b) b (b + 21) s.2 F G → Ev g (d + 2) m_Own_passes 279 [some (.inr (0, off 60 j0)), some (.inl (.int x1)), some (.inl (.int v2)), some (.inl (.int r3)), some (.inl (.int r4)), some (.inl (.int s.1))] [] (G, nx) mc ms Post) (X := fun z => z = q11) rfl (fun s9 o9 hs kC9 kX9 => ?_) LIM _ hl G hG
        intro G hG
        refine ws_Own_passes_279 d hv0 hG hs kC9 (fun r_ e G hG => ?_)
        · obtain rfl := (kX9 _ e).symm
          refine ev_iload_n (k0 := 3) rfl d_Own_passes_310 ?_
          refine cw_iconst 1 d_Own_passes_311 rfl ?_
          refine ev_icmp_eq (tgt := 318) (by decide) d_Own_passes_312 (fun c => ?_) (fun c => ?_)
          · rw [if_pos c] at h
            refine ev_aload_n (k0 := 0) rfl d_Own_passes_318 ?_
            refine cv_get9 (.inr (0, off 67 j0)) hG hv0 fg_Own_28_60 rfl rfl d_Own_passes_319 ?_
            refine ev_iload (i := 4) rfl d_Own_passes_322 ?_
            refine ev_aload_n (k0 := 0) rfl d_Own_passes_324 ?_
            refine cv_get9 (.inr (0, off 62 j0)) hG hv0 fg_Own_13_60 rfl rfl d_Own_passes_325 ?_
            refine ev_aload_n (k0 := 0) rfl d_Own_passes_328 ?_
            refine cv_get9 (.inr (0, off 68 j0)) hG hv0 fg_Own_31_60 rfl rfl d_Own_passes_329 ?_
            refine ev_iload_n (k0 := 2) rfl d_Own_passes_332 ?_
            obtain ⟨b12, h⟩ := chk_some h
            refine cv_iald hG (tv_60_22 hv0) rfl rfl b12 rfl d_Own_passes_333 ?_
            obtain ⟨b13, h⟩ := chk_some h
            refine cv_iald hG (tv_60_16 hv0) rfl rfl b13 rfl d_Own_passes_334 ?_
            refine ev_aload_n (k0 := 0) rfl d_Own_passes_335 ?_
            refine Ev.at (pc' := 336) rfl ?_
            refine cv_get9 (.inr (0, off 63 j0)) hG hv0 fg_Own_16_60 rfl rfl d_Own_passes_336 ?_
            refine ev_iload (i := 4) rfl d_Own_passes_339 ?_
            obtain ⟨b14, h⟩ := chk_some h
            refine cv_iald hG (tv_60_17 hv0) rfl rfl b14 rfl d_Own_passes_341 ?_
            obtain ⟨b15, h⟩ := chk_some h
            refine ev_idiv (of_decide_eq_true b15) d_Own_passes_342 ?_
            refine ev_aload_n (k0 := 0) rfl d_Own_passes_343 ?_
            refine cv_get9 (.inr (0, off 62 j0)) hG hv0 fg_Own_13_60 rfl rfl d_Own_passes_344 ?_
            refine ev_aload_n (k0 := 0) rfl d_Own_passes_347 ?_
            refine cv_get9 (.inr (0, off 68 j0)) hG hv0 fg_Own_31_60 rfl rfl d_Own_passes_348 ?_
            refine ev_iload_n (k0 := 2) rfl d_Own_passes_351 ?_
            obtain ⟨b16, h⟩ := chk_some h
            refine cv_iald hG (tv_60_22 hv0) rfl rfl b16 rfl d_Own_passes_352 ?_
            obtain ⟨b17, h⟩ := chk_some h
            refine cv_iald hG (tv_60_16 hv0) rfl rfl b17 rfl d_Own_passes_353 ?_
            refine ev_aload_n (k0 := 0) rfl d_Own_passes_354 ?_
            refine Ev.at (pc' := 355) rfl ?_
            refine cv_get9 (.inr (0, off 63 j0)) hG hv0 fg_Own_16_60 rfl rfl d_Own_passes_355 ?_
            refine ev_iload (i := 4) rfl d_Own_passes_358 ?_
            obtain ⟨b18, h⟩ := chk_some h
            refine cv_iald hG (tv_60_17 hv0) rfl rfl b18 rfl d_Own_passes_360 ?_
            obtain ⟨b19, h⟩ := chk_some h
            refine ev_irem (of_decide_eq_true b19) d_Own_passes_361 ?_
            obtain ⟨q20, hj, h⟩ := bind_some9 h
            have K_q20 : Ev g (d + 2) m_Own_passes 370 [some (.inr (0, off 60 j0)), some (.inl (.int x1)), some (.inl (.int v2)), none, some (.inl (.int r4)), none] [.inl (.int q20), .inl (.int ((q11 62 j0 (q11 68 j0 v2.toNatClampNeg).toNatClampNeg) / (q11 63 j0 r4.toNatClampNeg))), .inl (.int r4), .inr (0, off 67 j0)] (G, nx) mc ms Post := by
              refine ev_iadd d_Own_passes_370 ?_
              obtain ⟨b21, h⟩ := chk_some h
              obtain ⟨μ22, e_μ22, h⟩ := nm_some h
              refine cv_iast hG okO (tv_60_21 hv0) rfl rfl b21 rfl d_Own_passes_371 ?_
              intro G hG; rw [← e_μ22] at hG
              refine ev_aload_n (k0 := 0) rfl d_Own_passes_372 ?_
              refine cv_get9 (.inr (0, off 64 j0)) hG hv0 fg_Own_19_60 rfl rfl d_Own_passes_373 ?_
              refine ev_iload (i := 4) rfl d_Own_passes_376 ?_
              refine ev_aload_n (k0 := 0) rfl d_Own_passes_378 ?_
              refine cv_get9 (.inr (0, off 67 j0)) hG hv0 fg_Own_28_60 rfl rfl d_Own_passes_379 ?_
              refine ev_iload (i := 4) rfl d_Own_passes_382 ?_
              obtain ⟨b23, h⟩ := chk_some h
              refine cv_iald hG (tv_60_21 hv0) rfl rfl b23 rfl d_Own_passes_384 ?_
              obtain ⟨b24, h⟩ := chk_some h
              obtain ⟨μ25, e_μ25, h⟩ := nm_some h
              refine cv_iast hG okO (tv_60_18 hv0) rfl rfl b24 rfl d_Own_passes_385 ?_
              intro G hG; rw [← e_μ25] at hG
              refine ev_aload_n (k0 := 0) rfl d_Own_passes_386 ?_
              refine Ev.at (pc' := 387) rfl ?_
              refine cv_get9 (.inr (0, off 65 j0)) hG hv0 fg_Own_22_60 rfl rfl d_Own_passes_387 ?_
              refine ev_iload (i := 4) rfl d_Own_passes_390 ?_
              refine ev_aload_n (k0 := 0) rfl d_Own_passes_392 ?_
              refine ev_iload_n (k0 := 2) rfl d_Own_passes_393 ?_
              obtain ⟨r26, hr26, h⟩ := bind_some9 h
              refine Ev.z9 ?_
              refine cv_V (d := d + 1) (mc1 := 0) (ms1 := 0) (mc := mc) (ms := ms) [.inl (.int v2)] hG hv0 rfl lk_Own_118 (w_Own_refund (d + 1) hv0 hG hr26) rfl rfl d_Own_passes_394 (aft_ro ?_)
              refine Ev.at (pc' := 397) rfl (Ev.cong (st' := [.inl (.int r26), .inl (.int r4), .inr (0, off 65 j0)]) ?_ rfl rfl)
              obtain ⟨b27, h⟩ := chk_some h
              obtain ⟨μ28, e_μ28, h⟩ := nm_some h
              refine cv_iast hG okO (tv_60_19 hv0) rfl rfl b27 rfl d_Own_passes_397 ?_
              intro G hG; rw [← e_μ28] at hG
              refine ev_aload_n (k0 := 0) rfl d_Own_passes_398 ?_
              refine cv_get9 (.inr (0, off 66 j0)) hG hv0 fg_Own_25_60 rfl rfl d_Own_passes_399 ?_
              refine ev_iload (i := 4) rfl d_Own_passes_402 ?_
              refine ev_aload_n (k0 := 0) rfl d_Own_passes_404 ?_
              refine cv_get9 (.inr (0, off 68 j0)) hG hv0 fg_Own_31_60 rfl rfl d_Own_passes_405 ?_
              refine ev_iload_n (k0 := 2) rfl d_Own_passes_408 ?_
              obtain ⟨b29, h⟩ := chk_some h
              refine cv_iald hG (tv_60_22 hv0) rfl rfl b29 rfl d_Own_passes_409 ?_
              obtain ⟨b30, h⟩ := chk_some h
              obtain ⟨μ31, e_μ31, h⟩ := nm_some h
              refine cv_iast hG okO (tv_60_20 hv0) rfl rfl b30 rfl d_Own_passes_410 ?_
              intro G hG; rw [← e_μ31] at hG
              refine ev_aload_n (k0 := 0) rfl d_Own_passes_411 ?_
              refine ev_dup rfl d_Own_passes_412 ?_
              refine Ev.at (pc' := 413) rfl ?_
              refine cv_get9 (.inl (.int (μ31 60 j0 0))) hG hv0 fg_Own_72_60 rfl rfl d_Own_passes_413 ?_
              refine ev_aload_n (k0 := 0) rfl d_Own_passes_416 ?_
              refine cv_get9 (.inr (0, off 65 j0)) hG hv0 fg_Own_22_60 rfl rfl d_Own_passes_417 ?_
              refine ev_iload (i := 4) rfl d_Own_passes_420 ?_
              obtain ⟨b32, h⟩ := chk_some h
              refine cv_iald hG (tv_60_19 hv0) rfl rfl b32 rfl d_Own_passes_422 ?_
              refine ev_isub d_Own_passes_423 ?_
              obtain ⟨μ33, e_μ33, h⟩ := nm_some h
              refine cv_put (.inl (.int ((μ31 60 j0 0) - (μ31 65 j0 r4.toNatClampNeg)))) ((μ31 60 j0 0) - (μ31 65 j0 r4.toNatClampNeg)) hG okO hv0 fl_Own_72_60 rfl rfl okv_int d_Own_passes_424 ?_
              intro G hG; rw [← e_μ33] at hG
              refine ev_aload_n (k0 := 0) rfl d_Own_passes_427 ?_
              refine ev_dup rfl d_Own_passes_428 ?_
              refine cv_get9 (.inl (.int (μ33 60 j0 14))) hG hv0 fg_Own_115_60 rfl rfl d_Own_passes_429 ?_
              refine ev_aload_n (k0 := 0) rfl d_Own_passes_432 ?_
              refine cv_get9 (.inr (0, off 65 j0)) hG hv0 fg_Own_22_60 rfl rfl d_Own_passes_433 ?_
              refine Ev.at (pc' := 436) rfl ?_
              refine ev_iload (i := 4) rfl d_Own_passes_436 ?_
              obtain ⟨b34, h⟩ := chk_some h
              refine cv_iald hG (tv_60_19 hv0) rfl rfl b34 rfl d_Own_passes_438 ?_
              refine ev_iadd d_Own_passes_439 ?_
              obtain ⟨μ35, e_μ35, h⟩ := nm_some h
              refine cv_put (.inl (.int ((μ33 60 j0 14) + (μ33 65 j0 r4.toNatClampNeg)))) ((μ33 60 j0 14) + (μ33 65 j0 r4.toNatClampNeg)) hG okO hv0 fl_Own_115_60 rfl rfl okv_int d_Own_passes_440 ?_
              intro G hG; rw [← e_μ35] at hG
              refine ev_aload_n (k0 := 0) rfl d_Own_passes_443 ?_
              refine cv_get9 (.inr (0, off 74 j0)) hG hv0 fg_Own_49_60 rfl rfl d_Own_passes_444 ?_
              refine ev_iload_n (k0 := 2) rfl d_Own_passes_447 ?_
              refine cw_iconst 3 d_Own_passes_448 rfl ?_
              obtain ⟨b36, h⟩ := chk_some h
              obtain ⟨μ37, e_μ37, h⟩ := nm_some h
              refine cv_iast hG okO (tv_60_28 hv0) rfl rfl b36 rfl d_Own_passes_449 ?_
              intro G hG; rw [← e_μ37] at hG
              refine cw_iincN 1 1 [some (.inr (0, off 60 j0)), some (.inl (.int (x1 + 1))), some (.inl (.int v2)), none, some (.inl (.int r4)), none] d_Own_passes_450 rfl rfl rfl rfl rfl ?_
              refine ev_goto (tgt := 200) (by decide) d_Own_passes_453 ?_
              exact Ev.sub (.s (.s (.n (.n (.n (.n LSb.z)))))) (kC _ (Option.some.inj h).symm G hG)
            clear h
            have h := hj
            refine ev_if_le (tgt := 369) (by decide) d_Own_passes_362 (fun c => ?_) (fun c => ?_)
            · rw [if_pos c] at h
              refine cw_iconst 0 d_Own_passes_369 rfl ?_
              obtain rfl := Option.some.inj h
              exact Ev.sub (.s (.s (.s (.n (.s (.n LSb.z)))))) (K_q20)
            · rw [if_neg c] at h
              refine cw_iconst 1 d_Own_passes_365 rfl ?_
              refine ev_goto (tgt := 370) (by decide) d_Own_passes_366 ?_
              obtain rfl := Option.some.inj h
              exact Ev.sub (.s (.s (.s (.n (.s (.n LSb.z)))))) (K_q20)
          · rw [if_neg c] at h
            refine ev_goto (tgt := 450) (by decide) d_Own_passes_315 ?_
            refine cw_iincN 1 1 [some (.inr (0, off 60 j0)), some (.inl (.int (x1 + 1))), some (.inl (.int v2)), some (.inl (.int r3)), some (.inl (.int r4)), none] d_Own_passes_450 rfl rfl rfl rfl rfl ?_
            refine ev_goto (tgt := 200) (by decide) d_Own_passes_453 ?_
            exact Ev.sub (.s (.s (.n (.n (.n (.n LSb.z)))))) (kC _ (Option.some.inj h).symm G hG)
      have kE_q5 : ∀ v, q5 = .inr v → Post = pRW (vo b) b (b + 21) rV v F nx := by
        intro v e
        subst e; rw [els_r] at h
        exact kE _ (Option.some.inj h).symm
      clear h
      have h := hj
      refine ev_icmp_ne (tgt := 249) (by decide) d_Own_passes_236 (fun c => ?_) (fun c => ?_)
      · rw [if_neg c] at h
        exact K_q5 _ (Option.some.inj h).symm
      · rw [if_pos c] at h
        refine ev_iload (i := 4) rfl d_Own_passes_239 ?_
        refine ev_aload_n (k0 := 0) rfl d_Own_passes_241 ?_
        refine cv_get9 (.inl (.int (μ 60 j0 9))) hG hv0 fg_Own_100_60 rfl rfl d_Own_passes_242 ?_
        refine ev_icmp_ne (tgt := 249) (by decide) d_Own_passes_245 (fun c => ?_) (fun c => ?_)
        · rw [if_neg c] at h
          exact K_q5 _ (Option.some.inj h).symm
        · rw [if_pos c] at h
          have hP := kE_q5 _ (Option.some.inj h).symm
          exact ev_return (st := []) rfl d_Own_passes_248 (by rw [hP]; exact ⟨rfl, hG, rfl⟩)
set_option maxRecDepth 100000 in
set_option maxHeartbeats 4000000 in
theorem w_Own_passes {g : GL} {F G : RG} {b nx : Nat} (d : Nat) {j0 : Nat} {μ : Mem} (hv0 : (vo b) 60 j0)  {o : Mem} (hG : LM (vo b) b (b + 21) μ F G) (h : f_Own_passes j0 μ = some o) : Mt g (d + 2) m_Own_passes [.inr (0, off 60 j0)] (G, nx) 0 0 (pRW (vo b) b (b + 21) rV o F nx) := by
  unfold f_Own_passes at h
  have kE : ∀ v, o = v → pRW (vo b) b (b + 21) rV o F nx = pRW (vo b) b (b + 21) rV v F nx := fun v e => by subst e; rfl
  refine Mt.of9 [some (.inr (0, off 60 j0)), none, none, none, none, none] (by decide +kernel) rfl rfl rfl rfl ?_
  refine ev_aload_n (k0 := 0) rfl d_Own_passes_0 ?_
  refine ev_dup rfl d_Own_passes_1 ?_
  refine cv_get9 (.inl (.int (μ 60 j0 5))) hG hv0 fg_Own_88_60 rfl rfl d_Own_passes_2 ?_
  refine cw_iconst 1 d_Own_passes_5 rfl ?_
  refine ev_iadd d_Own_passes_6 ?_
  obtain ⟨μ1, e_μ1, h⟩ := nm_some h
  refine cv_put (.inl (.int ((μ 60 j0 5) + 1))) ((μ 60 j0 5) + 1) hG okO hv0 fl_Own_88_60 rfl rfl okv_int d_Own_passes_7 ?_
  intro G hG; rw [← e_μ1] at hG
  refine cw_iconst 0 d_Own_passes_10 rfl ?_
  refine cw_istoreN_n 1 0 rfl [some (.inr (0, off 60 j0)), some (.inl (.int 0)), none, none, none, none] d_Own_passes_11 rfl rfl rfl ?_
  obtain ⟨q2, hl, h⟩ := bind_some9 h
  refine it_ev (W := fun (s : Int32 × Mem) => ∀ G, LM (vo b) b (b + 21) s.2 F G → Ev g (d + 2) m_Own_passes 12 [some (.inr (0, off 60 j0)), some (.inl (.int s.1)), none, none, none, none] [] (G, nx) 0 0 (pRW (vo b) b (b + 21) rV o F nx)) (X := fun z => z = q2) rfl (fun s9 o9 hs kC9 kX9 => ?_) LIM _ hl G hG
  intro G hG
  refine ws_Own_passes_12 d hv0 hG hs kC9 (fun r_ e G hG => ?_)
  · obtain rfl := (kX9 _ e).symm
    refine cw_iconst 0 d_Own_passes_81 rfl ?_
    refine cw_istoreN_n 1 0 rfl [some (.inr (0, off 60 j0)), some (.inl (.int 0)), none, none, none, none] d_Own_passes_82 rfl rfl rfl ?_
    obtain ⟨q3, hl, h⟩ := bind_some9 h
    refine it_ev (W := fun (s : Int32 × Mem) => ∀ G, LM (vo b) b (b + 21) s.2 F G → Ev g (d + 2) m_Own_passes 83 [some (.inr (0, off 60 j0)), some (.inl (.int s.1)), none, none, none, none] [] (G, nx) 0 0 (pRW (vo b) b (b + 21) rV o F nx)) (X := fun z => z = q3) rfl (fun s9 o9 hs kC9 kX9 => ?_) LIM _ hl G hG
    intro G hG
    refine ws_Own_passes_83 d hv0 hG hs kC9 (fun r_ e G hG => ?_)
    · obtain rfl := (kX9 _ e).symm
      refine cw_iconst 0 d_Own_passes_198 rfl ?_
      refine cw_istoreN_n 1 0 rfl [some (.inr (0, off 60 j0)), some (.inl (.int 0)), none, none, none, none] d_Own_passes_199 rfl rfl rfl ?_
      obtain ⟨q4, hl, h⟩ := bind_some9 h
      refine it_ev (W := fun (s : Int32 × Mem) => ∀ G, LM (vo b) b (b + 21) s.2 F G → Ev g (d + 2) m_Own_passes 200 [some (.inr (0, off 60 j0)), some (.inl (.int s.1)), none, none, none, none] [] (G, nx) 0 0 (pRW (vo b) b (b + 21) rV o F nx)) (X := fun z => z = q4) rfl (fun s9 o9 hs kC9 kX9 => ?_) LIM _ hl G hG
      intro G hG
      refine ws_Own_passes_200 d hv0 hG hs kC9 (fun r5 e G hG => ?_) (fun v e => ?_)
      · obtain rfl := kX9 _ e
        rw [els_l] at h
        have hP := kE _ (Option.some.inj h).symm
        exact ev_return (st := []) rfl d_Own_passes_456 (by rw [hP]; exact ⟨rfl, hG, rfl⟩)
      · obtain rfl := kX9 _ e
        rw [els_r] at h
        exact kE _ (Option.some.inj h).symm

/-- ProphecyShopLaw$Own.queued -/
def s_Own_queued_2 (j0 : Nat) (x1 : Int32) (x2 : Int32) (μ : Mem) : Option ((Int32) ⊕ ((Unit) ⊕ (Int32))) :=
  if (μ 60 j0 12) ≤ x2 then (some (.inr (.inl (())))) else (chk (inb x2 24) (if (μ 77 j0 x2.toNatClampNeg) = x1 then (some (.inr (.inr x2))) else (some (.inl (x2 + 1)))))
def f_Own_queued (j0 : Nat) (x1 : Int32) (μ : Mem) : Option (Int32) :=
  (it (fun (s : Int32) => s_Own_queued_2 j0 x1 s μ) LIM 0).bind (fun q1 => els q1 (fun r2 => some ((-1))) (fun v => some v))
set_option maxRecDepth 100000 in
set_option maxHeartbeats 4000000 in
theorem ws_Own_queued_2 {g : GL} {F G : RG} {b nx mc ms : Nat} {Post : RO → RM → Prop} (d : Nat) {j0 : Nat} {x1 : Int32} {x2 : Int32} {μ : Mem} (hv0 : (vo b) 60 j0)  {o : (Int32) ⊕ ((Unit) ⊕ (Int32))} (hG : LM (vo b) b (b + 21) μ F G) (h : s_Own_queued_2 j0 x1 x2 μ = some o)
    (kC : ∀ s', o = .inl s' → Ev g (d + 0) m_Own_queued 2 [some (.inr (0, off 60 j0)), some (.inl (.int x1)), some (.inl (.int s'))] [] (G, nx) mc ms Post)
    (kX : ∀ r, o = .inr (.inl r) → Ev g (d + 0) m_Own_queued 28 [none, none, none] [] (G, nx) mc ms Post)
    (kE : ∀ v, o = .inr (.inr v) → Post = pRO (rI v) (G, nx)) : Ev g (d + 0) m_Own_queued 2 [some (.inr (0, off 60 j0)), some (.inl (.int x1)), some (.inl (.int x2))] [] (G, nx) mc ms Post := by
  unfold s_Own_queued_2 at h
  refine ev_iload_n (k0 := 2) rfl d_Own_queued_2 ?_
  refine ev_aload_n (k0 := 0) rfl d_Own_queued_3 ?_
  refine cv_get9 (.inl (.int (μ 60 j0 12))) hG hv0 fg_Own_109_60 rfl rfl d_Own_queued_4 ?_
  refine ev_icmp_ge (tgt := 28) (by decide) d_Own_queued_7 (fun c => ?_) (fun c => ?_)
  · rw [if_pos c] at h
    exact Ev.sub (.n (.n (.n LSb.z))) (kX _ (Option.some.inj h).symm)
  · rw [if_neg c] at h
    refine ev_aload_n (k0 := 0) rfl d_Own_queued_10 ?_
    refine cv_get9 (.inr (0, off 77 j0)) hG hv0 fg_Own_58_60 rfl rfl d_Own_queued_11 ?_
    refine ev_iload_n (k0 := 2) rfl d_Own_queued_14 ?_
    obtain ⟨b1, h⟩ := chk_some h
    refine cv_iald hG (tv_60_31 hv0) rfl rfl b1 rfl d_Own_queued_15 ?_
    refine ev_iload_n (k0 := 1) rfl d_Own_queued_16 ?_
    refine ev_icmp_ne (tgt := 22) (by decide) d_Own_queued_17 (fun c => ?_) (fun c => ?_)
    · rw [if_neg c] at h
      refine cw_iincN 2 1 [some (.inr (0, off 60 j0)), some (.inl (.int x1)), some (.inl (.int (x2 + 1)))] d_Own_queued_22 rfl rfl rfl rfl rfl ?_
      refine ev_goto (tgt := 2) (by decide) d_Own_queued_25 ?_
      exact kC _ (Option.some.inj h).symm
    · rw [if_pos c] at h
      refine ev_iload_n (k0 := 2) rfl d_Own_queued_20 ?_
      have hP := kE _ (Option.some.inj h).symm
      exact ev_ireturn (st := []) rfl rfl d_Own_queued_21 (by rw [hP]; exact ⟨rfl, rfl⟩)
set_option maxRecDepth 100000 in
set_option maxHeartbeats 4000000 in
theorem w_Own_queued {g : GL} {F G : RG} {b nx : Nat} (d : Nat) {j0 : Nat} {x1 : Int32} {μ : Mem} (hv0 : (vo b) 60 j0)  {o : Int32} (hG : LM (vo b) b (b + 21) μ F G) (h : f_Own_queued j0 x1 μ = some o) : Mt g (d + 0) m_Own_queued [.inr (0, off 60 j0), .inl (.int x1)] (G, nx) 0 0 (pRO (rI o) (G, nx)) := by
  unfold f_Own_queued at h
  have kE : ∀ v, o = v → pRO (rI o) (G, nx) = pRO (rI v) (G, nx) := fun v e => by subst e; rfl
  refine Mt.of9 [some (.inr (0, off 60 j0)), some (.inl (.int x1)), none] (by decide +kernel) rfl rfl rfl rfl ?_
  refine cw_iconst 0 d_Own_queued_0 rfl ?_
  refine cw_istoreN_n 2 0 rfl [some (.inr (0, off 60 j0)), some (.inl (.int x1)), some (.inl (.int 0))] d_Own_queued_1 rfl rfl rfl ?_
  obtain ⟨q1, hl, h⟩ := bind_some9 h
  refine it_ev (W := fun (s : Int32) => Ev g (d + 0) m_Own_queued 2 [some (.inr (0, off 60 j0)), some (.inl (.int x1)), some (.inl (.int s))] [] (G, nx) 0 0 (pRO (rI o) (G, nx))) (X := fun z => z = q1) rfl (fun s9 o9 hs kC9 kX9 => ?_) LIM _ hl
  refine ws_Own_queued_2 d hv0 hG hs kC9 (fun r2 e => ?_) (fun v e => ?_)
  · obtain rfl := kX9 _ e
    rw [els_l] at h
    refine cw_iconst (-1) d_Own_queued_28 rfl ?_
    have hP := kE _ (Option.some.inj h).symm
    exact ev_ireturn (st := []) rfl rfl d_Own_queued_29 (by rw [hP]; exact ⟨rfl, rfl⟩)
  · obtain rfl := kX9 _ e
    rw [els_r] at h
    exact kE _ (Option.some.inj h).symm

/-- ProphecyShopLaw$Own.times -/
def s_Own_times_5 (j0 : Nat) (x1 : Int32) (x2 : Int32) (x3 : Int32) (x4 : Int32) (μ : Mem) : Option ((Int32 × Int32) ⊕ (Int32)) :=
  if (μ 60 j0 11) ≤ x4 then (some (.inr x3)) else (chk (inb x4 60) (if (μ 79 j0 x4.toNatClampNeg) = ((6 * x1) + x2) then (nm (x3 + 1 : Int32) (fun v3 => some (.inl ((v3, x4 + 1))))) else (nm (x3 + 0 : Int32) (fun v2 => some (.inl ((v2, x4 + 1)))))))
def f_Own_times (j0 : Nat) (x1 : Int32) (x2 : Int32) (μ : Mem) : Option (Int32) :=
  (it (fun (s : Int32 × Int32) => s_Own_times_5 j0 x1 x2 s.1 s.2 μ) LIM ((0, 0))).bind (fun q1 => some q1)
set_option maxRecDepth 100000 in
set_option maxHeartbeats 4000000 in
theorem ws_Own_times_5 {g : GL} {F G : RG} {b nx mc ms : Nat} {Post : RO → RM → Prop} (d : Nat) {j0 : Nat} {x1 : Int32} {x2 : Int32} {x3 : Int32} {x4 : Int32} {μ : Mem} (hv0 : (vo b) 60 j0)  {o : (Int32 × Int32) ⊕ (Int32)} (hG : LM (vo b) b (b + 21) μ F G) (h : s_Own_times_5 j0 x1 x2 x3 x4 μ = some o)
    (kC : ∀ s', o = .inl s' → Ev g (d + 0) m_Own_times 5 [some (.inr (0, off 60 j0)), some (.inl (.int x1)), some (.inl (.int x2)), some (.inl (.int s'.1)), some (.inl (.int s'.2))] [] (G, nx) mc ms Post)
    (kX : ∀ r, o = .inr r → Ev g (d + 0) m_Own_times 44 [none, none, none, some (.inl (.int r)), none] [] (G, nx) mc ms Post)
    : Ev g (d + 0) m_Own_times 5 [some (.inr (0, off 60 j0)), some (.inl (.int x1)), some (.inl (.int x2)), some (.inl (.int x3)), some (.inl (.int x4))] [] (G, nx) mc ms Post := by
  unfold s_Own_times_5 at h
  refine ev_iload (i := 4) rfl d_Own_times_5 ?_
  refine ev_aload_n (k0 := 0) rfl d_Own_times_7 ?_
  refine cv_get9 (.inl (.int (μ 60 j0 11))) hG hv0 fg_Own_106_60 rfl rfl d_Own_times_8 ?_
  refine ev_icmp_ge (tgt := 44) (by decide) d_Own_times_11 (fun c => ?_) (fun c => ?_)
  · rw [if_pos c] at h
    exact Ev.sub (.n (.n (.n (.s (.n LSb.z))))) (kX _ (Option.some.inj h).symm)
  · rw [if_neg c] at h
    refine ev_iload_n (k0 := 3) rfl d_Own_times_14 ?_
    refine ev_aload_n (k0 := 0) rfl d_Own_times_15 ?_
    refine cv_get9 (.inr (0, off 79 j0)) hG hv0 fg_Own_65_60 rfl rfl d_Own_times_16 ?_
    refine ev_iload (i := 4) rfl d_Own_times_19 ?_
    obtain ⟨b1, h⟩ := chk_some h
    refine cv_iald hG (tv_60_33 hv0) rfl rfl b1 rfl d_Own_times_21 ?_
    refine cw_bipush 6 d_Own_times_22 rfl ?_
    refine ev_iload_n (k0 := 1) rfl d_Own_times_24 ?_
    refine ev_imul d_Own_times_25 ?_
    refine ev_iload_n (k0 := 2) rfl d_Own_times_26 ?_
    refine ev_iadd d_Own_times_27 ?_
    refine ev_icmp_ne (tgt := 35) (by decide) d_Own_times_28 (fun c => ?_) (fun c => ?_)
    · rw [if_neg c] at h
      refine cw_iconst 0 d_Own_times_35 rfl ?_
      refine ev_iadd d_Own_times_36 ?_
      obtain ⟨v2, e_v2, h⟩ := nm_some h
      refine cw_istoreN_n 3 v2 e_v2 [some (.inr (0, off 60 j0)), some (.inl (.int x1)), some (.inl (.int x2)), some (.inl (.int v2)), some (.inl (.int x4))] d_Own_times_37 rfl rfl rfl ?_
      refine cw_iincN 4 1 [some (.inr (0, off 60 j0)), some (.inl (.int x1)), some (.inl (.int x2)), some (.inl (.int v2)), some (.inl (.int (x4 + 1)))] d_Own_times_38 rfl rfl rfl rfl rfl ?_
      refine ev_goto (tgt := 5) (by decide) d_Own_times_41 ?_
      exact kC _ (Option.some.inj h).symm
    · rw [if_pos c] at h
      refine cw_iconst 1 d_Own_times_31 rfl ?_
      refine ev_goto (tgt := 36) (by decide) d_Own_times_32 ?_
      refine ev_iadd d_Own_times_36 ?_
      obtain ⟨v3, e_v3, h⟩ := nm_some h
      refine cw_istoreN_n 3 v3 e_v3 [some (.inr (0, off 60 j0)), some (.inl (.int x1)), some (.inl (.int x2)), some (.inl (.int v3)), some (.inl (.int x4))] d_Own_times_37 rfl rfl rfl ?_
      refine cw_iincN 4 1 [some (.inr (0, off 60 j0)), some (.inl (.int x1)), some (.inl (.int x2)), some (.inl (.int v3)), some (.inl (.int (x4 + 1)))] d_Own_times_38 rfl rfl rfl rfl rfl ?_
      refine ev_goto (tgt := 5) (by decide) d_Own_times_41 ?_
      exact kC _ (Option.some.inj h).symm
set_option maxRecDepth 100000 in
set_option maxHeartbeats 4000000 in
theorem w_Own_times {g : GL} {F G : RG} {b nx : Nat} (d : Nat) {j0 : Nat} {x1 : Int32} {x2 : Int32} {μ : Mem} (hv0 : (vo b) 60 j0)  {o : Int32} (hG : LM (vo b) b (b + 21) μ F G) (h : f_Own_times j0 x1 x2 μ = some o) : Mt g (d + 0) m_Own_times [.inr (0, off 60 j0), .inl (.int x1), .inl (.int x2)] (G, nx) 0 0 (pRO (rI o) (G, nx)) := by
  unfold f_Own_times at h
  have kE : ∀ v, o = v → pRO (rI o) (G, nx) = pRO (rI v) (G, nx) := fun v e => by subst e; rfl
  refine Mt.of9 [some (.inr (0, off 60 j0)), some (.inl (.int x1)), some (.inl (.int x2)), none, none] (by decide +kernel) rfl rfl rfl rfl ?_
  refine cw_iconst 0 d_Own_times_0 rfl ?_
  refine cw_istoreN_n 3 0 rfl [some (.inr (0, off 60 j0)), some (.inl (.int x1)), some (.inl (.int x2)), some (.inl (.int 0)), none] d_Own_times_1 rfl rfl rfl ?_
  refine cw_iconst 0 d_Own_times_2 rfl ?_
  refine cw_istoreN 4 0 rfl [some (.inr (0, off 60 j0)), some (.inl (.int x1)), some (.inl (.int x2)), some (.inl (.int 0)), some (.inl (.int 0))] d_Own_times_3 rfl rfl rfl ?_
  obtain ⟨q1, hl, h⟩ := bind_some9 h
  refine it_ev (W := fun (s : Int32 × Int32) => Ev g (d + 0) m_Own_times 5 [some (.inr (0, off 60 j0)), some (.inl (.int x1)), some (.inl (.int x2)), some (.inl (.int s.1)), some (.inl (.int s.2))] [] (G, nx) 0 0 (pRO (rI o) (G, nx))) (X := fun z => z = q1) rfl (fun s9 o9 hs kC9 kX9 => ?_) LIM _ hl
  refine ws_Own_times_5 d hv0 hG hs kC9 (fun r_ e => ?_)
  · obtain rfl := (kX9 _ e).symm
    refine ev_iload_n (k0 := 3) rfl d_Own_times_44 ?_
    have hP := kE _ (Option.some.inj h).symm
    exact ev_ireturn (st := []) rfl rfl d_Own_times_45 (by rw [hP]; exact ⟨rfl, rfl⟩)

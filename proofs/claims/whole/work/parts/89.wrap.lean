/-! The law's wrappers: a call, its number into the long[], its exception as a number. -/
/-- what a wrapper leaves: th is which exception, e what lies in the long[] if there was none -/
def WR (e : Int64) (th : Int32) (μ : Mem) (G : RG) (nx : Nat) : RO → RM → Prop := fun r M' => r = rI th ∧ ∃ f, LM vc 0 535 μ (wrG G 547 (true, 3, 1, f)) M'.1 ∧ nx ≤ M'.2 ∧ M'.2 ≤ nx + 1000000 ∧ (th = 0 → f 0 = .inl (.long e))
def bzL (x : Int32) : Int64 := if x = 0 then Int64.ofNat 0 else Int64.ofNat 1
theorem LM.out {V : Nat → Nat → Prop} {lo hi q : Nat} {μ : Mem} {F G : RG} {c : RC} (h : LM V lo hi μ F G) (hO : OKV V lo hi) (hq : hi ≤ q) : LM V lo hi μ (wrG F q c) (wrG G q c) := by
  refine ⟨fun K j hv => ?_, fun o ho => ?_⟩
  · rw [wrG_N (by have := (hO.2 K j hv).2; omega)]
    exact h.1 K j hv
  · unfold wrG
    by_cases e : o = q
    · rw [if_pos e, if_pos e]
    · rw [if_neg e, if_neg e]
      exact h.2 o ho
theorem LM.same {V : Nat → Nat → Prop} {lo hi q : Nat} {μ : Mem} {F G : RG} {c : RC} (h : LM V lo hi μ F G) (hF : F q = some c) : LM V lo hi μ (wrG F q c) G := by
  refine ⟨h.1, fun o ho => (h.2 o ho).trans ?_⟩
  unfold wrG
  by_cases e : o = q
  · rw [if_pos e, e]; exact hF
  · rw [if_neg e]
theorem updF_0 {f : Nat → RV} {v : RV} : updF f (0 : Int32).toNatClampNeg v 0 = v := if_pos (by decide)
theorem bzL_1 {x : Int32} (h : ¬ x = 0) : bzL x = Int64.ofNat 1 := if_neg h
theorem bzL_0 {x : Int32} (h : x = 0) : bzL x = Int64.ofNat 0 := if_pos h
/-- a call that only reads -/
theorem Mt.ro {g : GL} {d : Nat} {mi : MI} {vs : List RV} {G F : RG} {nx mc ms : Nat} {r : RO} {μ : Mem} (hG : LM vc 0 535 μ F G) (h : Mt g d mi vs (G, nx) mc ms (pRO r (G, nx))) : Mt g d mi vs (G, nx) mc ms (pRW vc 0 535 r μ F nx) := by
  have e : ∀ o M', pRO r (G, nx) o M' → pRW vc 0 535 r μ F nx o M' := fun o M' q => by
    obtain ⟨q1, q2⟩ := q
    subst q2
    exact ⟨q1, hG, rfl⟩
  intro hmc p env h1 h2 h3 s m args below h4 h5 h6 h7
  obtain ⟨k, o, z1, z2, z3, z4⟩ := h hmc p env h1 h2 h3 s m args below h4 h5 h6 h7
  refine ⟨k, o, z1, z2, z3, ?_⟩
  rcases z4 with ⟨⟨⟨v, M', e1, e2, e3⟩, e4⟩, e5⟩ | ⟨q, e1, E, ce, L, ⟨⟨M', f1, f2⟩, f3⟩, f4⟩
  · exact Or.inl ⟨⟨⟨v, M', e1, e _ _ e2, e3⟩, e4⟩, e5⟩
  · exact Or.inr ⟨q, e1, E, ce, L, ⟨⟨M', e _ _ f1, f2⟩, f3⟩, f4⟩
section Wrap
variable {g : GL} {F G : RG} {nx : Nat} {μ : Mem}
theorem LW_append (d : Nat) {x1 x2 x3 x4 x5 : Int32} {o : String ⊕ Int32} {m : Mem} {r th : Int32} {mc1 ms1 : Nat} {f0 : Nat → RV} (hG : LM vc 0 535 μ G G) (hC : G 547 = some (true, 3, 1, f0)) (hR : RES [(xISE, 1)] o r th) (hM : Mt g d m_P_append [.inr (0, off 12 0), .inl (.int x1), .inl (.int x2), .inl (.int x3), .inl (.int x4), .inl (.int x5)] (G, nx) mc1 ms1 (pRW vc 0 535 (thR rI o) m G nx)) : Mt g (d + 1) m_PLaw_append [.inr (0, 0), .inl (.int x1), .inl (.int x2), .inl (.int x3), .inl (.int x4), .inl (.int x5), .inr (0, 547)] (G, nx) mc1 ms1 (WR (r.toInt64) th m G nx) := by
  refine Mt.of9H [some (.inr (0, 0)), some (.inl (.int x1)), some (.inl (.int x2)), some (.inl (.int x3)), some (.inl (.int x4)), some (.inl (.int x5)), some (.inr (0, 547)), none] (by decide +kernel) (fun h => by cases h) rfl rfl rfl ?_
  refine ev_aload (i := 6) rfl d_PLaw_append_0 ?_
  refine cw_iconst 0 d_PLaw_append_2 rfl ?_
  refine ev_aload_n (k0 := 0) rfl d_PLaw_append_3 ?_
  refine ev_iload_n (k0 := 1) rfl d_PLaw_append_4 ?_
  refine ev_iload_n (k0 := 2) rfl d_PLaw_append_5 ?_
  refine ev_iload_n (k0 := 3) rfl d_PLaw_append_6 ?_
  refine ev_iload (i := 4) rfl d_PLaw_append_7 ?_
  refine ev_iload (i := 5) rfl d_PLaw_append_9 ?_
  refine Ev.room (mc := mc1 + 0) (ms := ms1 + 0) (ev_invVH (vs := [.inl (.int x1), .inl (.int x2), .inl (.int x3), .inl (.int x4), .inl (.int x5)]) (M := (G, nx)) (LM.obj (g := g) (nx := nx) hG v_12 rfl) lk_ProphecyShopLaw_7 hM rfl (Nat.le_of_ble_eq_true rfl) d_PLaw_append_11 ⟨fun v M1 h => ?_, fun E M1 h => ?_⟩) (Nat.le_refl _) (Nat.le_refl _)
  · obtain ⟨h1, h2, h3⟩ := h
    obtain ⟨G1, n1⟩ := M1
    replace h3 : n1 = nx := h3
    subst h3
    have h5 : G1 547 = some (true, 3, 1, f0) := (h2.2 547 (Or.inr (by decide))).trans hC
    rcases hR with ⟨rfl, rfl⟩ | ⟨q, -, rfl, -⟩
    · cases h1
      refine ev_i2l d_PLaw_append_14 ?_
      refine ev_last (M := (G1, n1)) h5 (i := 0) (show vp_in 0 1 from inb_vp (by decide)) d_PLaw_append_15 ?_
      refine ev_goto (tgt := 23) (by decide) d_PLaw_append_16 ?_
      refine cw_iconst 0 d_PLaw_append_23 rfl ?_
      exact ev_ireturn (st := []) rfl rfl d_PLaw_append_24 ⟨rfl, _, h2.out okC (by omega), Nat.le_refl _, Nat.le_add_right _ _, fun _ => updF_0⟩
    · cases h1
  · obtain ⟨h1, h2, h3⟩ := h
    obtain ⟨G1, n1⟩ := M1
    replace h3 : n1 = nx := h3
    subst h3
    rcases hR with ⟨rfl, rfl⟩ | ⟨q, hq, rfl, rfl⟩
    · cases h1
    · cases h1
      simp only [List.mem_cons, List.not_mem_nil, or_false] at hq
      subst hq
      refine ⟨19, ct_PLaw_append_0, fun q9 nx9 g1 g2 => ?_⟩
      refine ev_astoreR (i := 7) rfl (Nat.le_of_ble_eq_true rfl) d_PLaw_append_19 ?_
      refine cw_iconst 1 d_PLaw_append_21 rfl ?_
      exact ev_ireturn (st := []) rfl rfl d_PLaw_append_22 ⟨rfl, f0, h2.same hC, g1, g2, fun z => absurd z (by decide)⟩
theorem LW_truncate (d : Nat) {x1 : Int32} {o : String ⊕ Int32} {m : Mem} {r th : Int32} {mc1 ms1 : Nat} {f0 : Nat → RV} (hG : LM vc 0 535 μ G G) (hC : G 547 = some (true, 3, 1, f0)) (hR : RES [(xIAE, 1)] o r th) (hM : Mt g d m_P_truncate [.inr (0, off 12 0), .inl (.int x1)] (G, nx) mc1 ms1 (pRW vc 0 535 (thR rI o) m G nx)) : Mt g (d + 1) m_PLaw_truncate [.inr (0, 0), .inl (.int x1), .inr (0, 547)] (G, nx) mc1 ms1 (WR (r.toInt64) th m G nx) := by
  refine Mt.of9H [some (.inr (0, 0)), some (.inl (.int x1)), some (.inr (0, 547)), none] (by decide +kernel) (fun h => by cases h) rfl rfl rfl ?_
  refine ev_aload_n (k0 := 2) rfl d_PLaw_truncate_0 ?_
  refine cw_iconst 0 d_PLaw_truncate_1 rfl ?_
  refine ev_aload_n (k0 := 0) rfl d_PLaw_truncate_2 ?_
  refine ev_iload_n (k0 := 1) rfl d_PLaw_truncate_3 ?_
  refine Ev.room (mc := mc1 + 0) (ms := ms1 + 0) (ev_invVH (vs := [.inl (.int x1)]) (M := (G, nx)) (LM.obj (g := g) (nx := nx) hG v_12 rfl) lk_ProphecyShopLaw_15 hM rfl (Nat.le_of_ble_eq_true rfl) d_PLaw_truncate_4 ⟨fun v M1 h => ?_, fun E M1 h => ?_⟩) (Nat.le_refl _) (Nat.le_refl _)
  · obtain ⟨h1, h2, h3⟩ := h
    obtain ⟨G1, n1⟩ := M1
    replace h3 : n1 = nx := h3
    subst h3
    have h5 : G1 547 = some (true, 3, 1, f0) := (h2.2 547 (Or.inr (by decide))).trans hC
    rcases hR with ⟨rfl, rfl⟩ | ⟨q, -, rfl, -⟩
    · cases h1
      refine ev_i2l d_PLaw_truncate_7 ?_
      refine ev_last (M := (G1, n1)) h5 (i := 0) (show vp_in 0 1 from inb_vp (by decide)) d_PLaw_truncate_8 ?_
      refine ev_goto (tgt := 15) (by decide) d_PLaw_truncate_9 ?_
      refine cw_iconst 0 d_PLaw_truncate_15 rfl ?_
      exact ev_ireturn (st := []) rfl rfl d_PLaw_truncate_16 ⟨rfl, _, h2.out okC (by omega), Nat.le_refl _, Nat.le_add_right _ _, fun _ => updF_0⟩
    · cases h1
  · obtain ⟨h1, h2, h3⟩ := h
    obtain ⟨G1, n1⟩ := M1
    replace h3 : n1 = nx := h3
    subst h3
    rcases hR with ⟨rfl, rfl⟩ | ⟨q, hq, rfl, rfl⟩
    · cases h1
    · cases h1
      simp only [List.mem_cons, List.not_mem_nil, or_false] at hq
      subst hq
      refine ⟨12, ct_PLaw_truncate_0, fun q9 nx9 g1 g2 => ?_⟩
      refine ev_astoreR_n (k0 := 3) rfl (Nat.le_of_ble_eq_true rfl) d_PLaw_truncate_12 ?_
      refine cw_iconst 1 d_PLaw_truncate_13 rfl ?_
      exact ev_ireturn (st := []) rfl rfl d_PLaw_truncate_14 ⟨rfl, f0, h2.same hC, g1, g2, fun z => absurd z (by decide)⟩
theorem LW_purse (d : Nat) {x1 : Int32} {o : String ⊕ Int32} {m : Mem} {r th : Int32} {mc1 ms1 : Nat} {f0 : Nat → RV} (hG : LM vc 0 535 μ G G) (hC : G 547 = some (true, 3, 1, f0)) (hR : RES [(xIOB, 1)] o r th) (hM : Mt g d m_P_purse [.inr (0, off 12 0), .inl (.int x1)] (G, nx) mc1 ms1 (pRW vc 0 535 (thR rI o) m G nx)) : Mt g (d + 1) m_PLaw_purse [.inr (0, 0), .inl (.int x1), .inr (0, 547)] (G, nx) mc1 ms1 (WR (r.toInt64) th m G nx) := by
  refine Mt.of9H [some (.inr (0, 0)), some (.inl (.int x1)), some (.inr (0, 547)), none] (by decide +kernel) (fun h => by cases h) rfl rfl rfl ?_
  refine ev_aload_n (k0 := 2) rfl d_PLaw_purse_0 ?_
  refine cw_iconst 0 d_PLaw_purse_1 rfl ?_
  refine ev_aload_n (k0 := 0) rfl d_PLaw_purse_2 ?_
  refine ev_iload_n (k0 := 1) rfl d_PLaw_purse_3 ?_
  refine Ev.room (mc := mc1 + 0) (ms := ms1 + 0) (ev_invVH (vs := [.inl (.int x1)]) (M := (G, nx)) (LM.obj (g := g) (nx := nx) hG v_12 rfl) lk_ProphecyShopLaw_21 hM rfl (Nat.le_of_ble_eq_true rfl) d_PLaw_purse_4 ⟨fun v M1 h => ?_, fun E M1 h => ?_⟩) (Nat.le_refl _) (Nat.le_refl _)
  · obtain ⟨h1, h2, h3⟩ := h
    obtain ⟨G1, n1⟩ := M1
    replace h3 : n1 = nx := h3
    subst h3
    have h5 : G1 547 = some (true, 3, 1, f0) := (h2.2 547 (Or.inr (by decide))).trans hC
    rcases hR with ⟨rfl, rfl⟩ | ⟨q, -, rfl, -⟩
    · cases h1
      refine ev_i2l d_PLaw_purse_7 ?_
      refine ev_last (M := (G1, n1)) h5 (i := 0) (show vp_in 0 1 from inb_vp (by decide)) d_PLaw_purse_8 ?_
      refine ev_goto (tgt := 15) (by decide) d_PLaw_purse_9 ?_
      refine cw_iconst 0 d_PLaw_purse_15 rfl ?_
      exact ev_ireturn (st := []) rfl rfl d_PLaw_purse_16 ⟨rfl, _, h2.out okC (by omega), Nat.le_refl _, Nat.le_add_right _ _, fun _ => updF_0⟩
    · cases h1
  · obtain ⟨h1, h2, h3⟩ := h
    obtain ⟨G1, n1⟩ := M1
    replace h3 : n1 = nx := h3
    subst h3
    rcases hR with ⟨rfl, rfl⟩ | ⟨q, hq, rfl, rfl⟩
    · cases h1
    · cases h1
      simp only [List.mem_cons, List.not_mem_nil, or_false] at hq
      subst hq
      refine ⟨12, ct_PLaw_purse_0, fun q9 nx9 g1 g2 => ?_⟩
      refine ev_astoreR_n (k0 := 3) rfl (Nat.le_of_ble_eq_true rfl) d_PLaw_purse_12 ?_
      refine cw_iconst 1 d_PLaw_purse_13 rfl ?_
      exact ev_ireturn (st := []) rfl rfl d_PLaw_purse_14 ⟨rfl, f0, h2.same hC, g1, g2, fun z => absurd z (by decide)⟩
theorem LW_timesHappened (d : Nat) {x1 x2 : Int32} {o : String ⊕ Int32} {m : Mem} {r th : Int32} {mc1 ms1 : Nat} {f0 : Nat → RV} (hG : LM vc 0 535 μ G G) (hC : G 547 = some (true, 3, 1, f0)) (hR : RES [(xIOB, 1)] o r th) (hM : Mt g d m_P_timesHappened [.inr (0, off 12 0), .inl (.int x1), .inl (.int x2)] (G, nx) mc1 ms1 (pRW vc 0 535 (thR rI o) m G nx)) : Mt g (d + 1) m_PLaw_timesHappened [.inr (0, 0), .inl (.int x1), .inl (.int x2), .inr (0, 547)] (G, nx) mc1 ms1 (WR (r.toInt64) th m G nx) := by
  refine Mt.of9H [some (.inr (0, 0)), some (.inl (.int x1)), some (.inl (.int x2)), some (.inr (0, 547)), none] (by decide +kernel) (fun h => by cases h) rfl rfl rfl ?_
  refine ev_aload_n (k0 := 3) rfl d_PLaw_timesHappened_0 ?_
  refine cw_iconst 0 d_PLaw_timesHappened_1 rfl ?_
  refine ev_aload_n (k0 := 0) rfl d_PLaw_timesHappened_2 ?_
  refine ev_iload_n (k0 := 1) rfl d_PLaw_timesHappened_3 ?_
  refine ev_iload_n (k0 := 2) rfl d_PLaw_timesHappened_4 ?_
  refine Ev.room (mc := mc1 + 0) (ms := ms1 + 0) (ev_invVH (vs := [.inl (.int x1), .inl (.int x2)]) (M := (G, nx)) (LM.obj (g := g) (nx := nx) hG v_12 rfl) lk_ProphecyShopLaw_26 hM rfl (Nat.le_of_ble_eq_true rfl) d_PLaw_timesHappened_5 ⟨fun v M1 h => ?_, fun E M1 h => ?_⟩) (Nat.le_refl _) (Nat.le_refl _)
  · obtain ⟨h1, h2, h3⟩ := h
    obtain ⟨G1, n1⟩ := M1
    replace h3 : n1 = nx := h3
    subst h3
    have h5 : G1 547 = some (true, 3, 1, f0) := (h2.2 547 (Or.inr (by decide))).trans hC
    rcases hR with ⟨rfl, rfl⟩ | ⟨q, -, rfl, -⟩
    · cases h1
      refine ev_i2l d_PLaw_timesHappened_8 ?_
      refine ev_last (M := (G1, n1)) h5 (i := 0) (show vp_in 0 1 from inb_vp (by decide)) d_PLaw_timesHappened_9 ?_
      refine ev_goto (tgt := 17) (by decide) d_PLaw_timesHappened_10 ?_
      refine cw_iconst 0 d_PLaw_timesHappened_17 rfl ?_
      exact ev_ireturn (st := []) rfl rfl d_PLaw_timesHappened_18 ⟨rfl, _, h2.out okC (by omega), Nat.le_refl _, Nat.le_add_right _ _, fun _ => updF_0⟩
    · cases h1
  · obtain ⟨h1, h2, h3⟩ := h
    obtain ⟨G1, n1⟩ := M1
    replace h3 : n1 = nx := h3
    subst h3
    rcases hR with ⟨rfl, rfl⟩ | ⟨q, hq, rfl, rfl⟩
    · cases h1
    · cases h1
      simp only [List.mem_cons, List.not_mem_nil, or_false] at hq
      subst hq
      refine ⟨13, ct_PLaw_timesHappened_0, fun q9 nx9 g1 g2 => ?_⟩
      refine ev_astoreR (i := 4) rfl (Nat.le_of_ble_eq_true rfl) d_PLaw_timesHappened_13 ?_
      refine cw_iconst 1 d_PLaw_timesHappened_15 rfl ?_
      exact ev_ireturn (st := []) rfl rfl d_PLaw_timesHappened_16 ⟨rfl, f0, h2.same hC, g1, g2, fun z => absurd z (by decide)⟩
theorem LW_hasHappened (d : Nat) {x1 x2 x3 : Int32} {o : String ⊕ Int32} {m : Mem} {r th : Int32} {mc1 ms1 : Nat} {f0 : Nat → RV} (hG : LM vc 0 535 μ G G) (hC : G 547 = some (true, 3, 1, f0)) (hR : RES [(xIOB, 1)] o r th) (hM : Mt g d m_P_hasHappened [.inr (0, off 12 0), .inl (.int x1), .inl (.int x2), .inl (.int x3)] (G, nx) mc1 ms1 (pRW vc 0 535 (thR rI o) m G nx)) : Mt g (d + 1) m_PLaw_hasHappened [.inr (0, 0), .inl (.int x1), .inl (.int x2), .inl (.int x3), .inr (0, 547)] (G, nx) mc1 ms1 (WR (bzL r) th m G nx) := by
  refine Mt.of9H [some (.inr (0, 0)), some (.inl (.int x1)), some (.inl (.int x2)), some (.inl (.int x3)), some (.inr (0, 547)), none] (by decide +kernel) (fun h => by cases h) rfl rfl rfl ?_
  refine ev_aload (i := 4) rfl d_PLaw_hasHappened_0 ?_
  refine cw_iconst 0 d_PLaw_hasHappened_2 rfl ?_
  refine ev_aload_n (k0 := 0) rfl d_PLaw_hasHappened_3 ?_
  refine ev_iload_n (k0 := 1) rfl d_PLaw_hasHappened_4 ?_
  refine ev_iload_n (k0 := 2) rfl d_PLaw_hasHappened_5 ?_
  refine ev_iload_n (k0 := 3) rfl d_PLaw_hasHappened_6 ?_
  refine Ev.room (mc := mc1 + 0) (ms := ms1 + 0) (ev_invVH (vs := [.inl (.int x1), .inl (.int x2), .inl (.int x3)]) (M := (G, nx)) (LM.obj (g := g) (nx := nx) hG v_12 rfl) lk_ProphecyShopLaw_30 hM rfl (Nat.le_of_ble_eq_true rfl) d_PLaw_hasHappened_7 ⟨fun v M1 h => ?_, fun E M1 h => ?_⟩) (Nat.le_refl _) (Nat.le_refl _)
  · obtain ⟨h1, h2, h3⟩ := h
    obtain ⟨G1, n1⟩ := M1
    replace h3 : n1 = nx := h3
    subst h3
    have h5 : G1 547 = some (true, 3, 1, f0) := (h2.2 547 (Or.inr (by decide))).trans hC
    rcases hR with ⟨rfl, rfl⟩ | ⟨q, -, rfl, -⟩
    · cases h1
      refine ev_if_eq (tgt := 17) (by decide) d_PLaw_hasHappened_10 (fun c => ?_) (fun c => ?_)
      · refine ev_lconst (n := 0) d_PLaw_hasHappened_17 ?_
        refine ev_last (M := (G1, n1)) h5 (i := 0) (show vp_in 0 1 from inb_vp (by decide)) d_PLaw_hasHappened_18 ?_
        refine ev_goto (tgt := 26) (by decide) d_PLaw_hasHappened_19 ?_
        refine cw_iconst 0 d_PLaw_hasHappened_26 rfl ?_
        exact ev_ireturn (st := []) rfl rfl d_PLaw_hasHappened_27 ⟨rfl, _, h2.out okC (by omega), Nat.le_refl _, Nat.le_add_right _ _, fun _ => updF_0.trans (by rw [bzL_0 c]; rfl)⟩
      · refine ev_lconst (n := 1) d_PLaw_hasHappened_13 ?_
        refine ev_goto (tgt := 18) (by decide) d_PLaw_hasHappened_14 ?_
        refine ev_last (M := (G1, n1)) h5 (i := 0) (show vp_in 0 1 from inb_vp (by decide)) d_PLaw_hasHappened_18 ?_
        refine ev_goto (tgt := 26) (by decide) d_PLaw_hasHappened_19 ?_
        refine cw_iconst 0 d_PLaw_hasHappened_26 rfl ?_
        exact ev_ireturn (st := []) rfl rfl d_PLaw_hasHappened_27 ⟨rfl, _, h2.out okC (by omega), Nat.le_refl _, Nat.le_add_right _ _, fun _ => updF_0.trans (by rw [bzL_1 c]; rfl)⟩
    · cases h1
  · obtain ⟨h1, h2, h3⟩ := h
    obtain ⟨G1, n1⟩ := M1
    replace h3 : n1 = nx := h3
    subst h3
    rcases hR with ⟨rfl, rfl⟩ | ⟨q, hq, rfl, rfl⟩
    · cases h1
    · cases h1
      simp only [List.mem_cons, List.not_mem_nil, or_false] at hq
      subst hq
      refine ⟨22, ct_PLaw_hasHappened_0, fun q9 nx9 g1 g2 => ?_⟩
      refine ev_astoreR (i := 5) rfl (Nat.le_of_ble_eq_true rfl) d_PLaw_hasHappened_22 ?_
      refine cw_iconst 1 d_PLaw_hasHappened_24 rfl ?_
      exact ev_ireturn (st := []) rfl rfl d_PLaw_hasHappened_25 ⟨rfl, f0, h2.same hC, g1, g2, fun z => absurd z (by decide)⟩
theorem LW_customerOf (d : Nat) {x1 : Int32} {o : String ⊕ Int32} {m : Mem} {r th : Int32} {mc1 ms1 : Nat} {f0 : Nat → RV} (hG : LM vc 0 535 μ G G) (hC : G 547 = some (true, 3, 1, f0)) (hR : RES [(xIOB, 1)] o r th) (hM : Mt g d m_P_customerOf [.inr (0, off 12 0), .inl (.int x1)] (G, nx) mc1 ms1 (pRW vc 0 535 (thR rI o) m G nx)) : Mt g (d + 1) m_PLaw_customerOf [.inr (0, 0), .inl (.int x1), .inr (0, 547)] (G, nx) mc1 ms1 (WR (r.toInt64) th m G nx) := by
  refine Mt.of9H [some (.inr (0, 0)), some (.inl (.int x1)), some (.inr (0, 547)), none] (by decide +kernel) (fun h => by cases h) rfl rfl rfl ?_
  refine ev_aload_n (k0 := 2) rfl d_PLaw_customerOf_0 ?_
  refine cw_iconst 0 d_PLaw_customerOf_1 rfl ?_
  refine ev_aload_n (k0 := 0) rfl d_PLaw_customerOf_2 ?_
  refine ev_iload_n (k0 := 1) rfl d_PLaw_customerOf_3 ?_
  refine Ev.room (mc := mc1 + 0) (ms := ms1 + 0) (ev_invVH (vs := [.inl (.int x1)]) (M := (G, nx)) (LM.obj (g := g) (nx := nx) hG v_12 rfl) lk_ProphecyShopLaw_34 hM rfl (Nat.le_of_ble_eq_true rfl) d_PLaw_customerOf_4 ⟨fun v M1 h => ?_, fun E M1 h => ?_⟩) (Nat.le_refl _) (Nat.le_refl _)
  · obtain ⟨h1, h2, h3⟩ := h
    obtain ⟨G1, n1⟩ := M1
    replace h3 : n1 = nx := h3
    subst h3
    have h5 : G1 547 = some (true, 3, 1, f0) := (h2.2 547 (Or.inr (by decide))).trans hC
    rcases hR with ⟨rfl, rfl⟩ | ⟨q, -, rfl, -⟩
    · cases h1
      refine ev_i2l d_PLaw_customerOf_7 ?_
      refine ev_last (M := (G1, n1)) h5 (i := 0) (show vp_in 0 1 from inb_vp (by decide)) d_PLaw_customerOf_8 ?_
      refine ev_goto (tgt := 15) (by decide) d_PLaw_customerOf_9 ?_
      refine cw_iconst 0 d_PLaw_customerOf_15 rfl ?_
      exact ev_ireturn (st := []) rfl rfl d_PLaw_customerOf_16 ⟨rfl, _, h2.out okC (by omega), Nat.le_refl _, Nat.le_add_right _ _, fun _ => updF_0⟩
    · cases h1
  · obtain ⟨h1, h2, h3⟩ := h
    obtain ⟨G1, n1⟩ := M1
    replace h3 : n1 = nx := h3
    subst h3
    rcases hR with ⟨rfl, rfl⟩ | ⟨q, hq, rfl, rfl⟩
    · cases h1
    · cases h1
      simp only [List.mem_cons, List.not_mem_nil, or_false] at hq
      subst hq
      refine ⟨12, ct_PLaw_customerOf_0, fun q9 nx9 g1 g2 => ?_⟩
      refine ev_astoreR_n (k0 := 3) rfl (Nat.le_of_ble_eq_true rfl) d_PLaw_customerOf_12 ?_
      refine cw_iconst 1 d_PLaw_customerOf_13 rfl ?_
      exact ev_ireturn (st := []) rfl rfl d_PLaw_customerOf_14 ⟨rfl, f0, h2.same hC, g1, g2, fun z => absurd z (by decide)⟩
theorem LW_eventOf (d : Nat) {x1 : Int32} {o : String ⊕ Int32} {m : Mem} {r th : Int32} {mc1 ms1 : Nat} {f0 : Nat → RV} (hG : LM vc 0 535 μ G G) (hC : G 547 = some (true, 3, 1, f0)) (hR : RES [(xIOB, 1)] o r th) (hM : Mt g d m_P_eventOf [.inr (0, off 12 0), .inl (.int x1)] (G, nx) mc1 ms1 (pRW vc 0 535 (thR rI o) m G nx)) : Mt g (d + 1) m_PLaw_eventOf [.inr (0, 0), .inl (.int x1), .inr (0, 547)] (G, nx) mc1 ms1 (WR (r.toInt64) th m G nx) := by
  refine Mt.of9H [some (.inr (0, 0)), some (.inl (.int x1)), some (.inr (0, 547)), none] (by decide +kernel) (fun h => by cases h) rfl rfl rfl ?_
  refine ev_aload_n (k0 := 2) rfl d_PLaw_eventOf_0 ?_
  refine cw_iconst 0 d_PLaw_eventOf_1 rfl ?_
  refine ev_aload_n (k0 := 0) rfl d_PLaw_eventOf_2 ?_
  refine ev_iload_n (k0 := 1) rfl d_PLaw_eventOf_3 ?_
  refine Ev.room (mc := mc1 + 0) (ms := ms1 + 0) (ev_invVH (vs := [.inl (.int x1)]) (M := (G, nx)) (LM.obj (g := g) (nx := nx) hG v_12 rfl) lk_ProphecyShopLaw_37 hM rfl (Nat.le_of_ble_eq_true rfl) d_PLaw_eventOf_4 ⟨fun v M1 h => ?_, fun E M1 h => ?_⟩) (Nat.le_refl _) (Nat.le_refl _)
  · obtain ⟨h1, h2, h3⟩ := h
    obtain ⟨G1, n1⟩ := M1
    replace h3 : n1 = nx := h3
    subst h3
    have h5 : G1 547 = some (true, 3, 1, f0) := (h2.2 547 (Or.inr (by decide))).trans hC
    rcases hR with ⟨rfl, rfl⟩ | ⟨q, -, rfl, -⟩
    · cases h1
      refine ev_i2l d_PLaw_eventOf_7 ?_
      refine ev_last (M := (G1, n1)) h5 (i := 0) (show vp_in 0 1 from inb_vp (by decide)) d_PLaw_eventOf_8 ?_
      refine ev_goto (tgt := 15) (by decide) d_PLaw_eventOf_9 ?_
      refine cw_iconst 0 d_PLaw_eventOf_15 rfl ?_
      exact ev_ireturn (st := []) rfl rfl d_PLaw_eventOf_16 ⟨rfl, _, h2.out okC (by omega), Nat.le_refl _, Nat.le_add_right _ _, fun _ => updF_0⟩
    · cases h1
  · obtain ⟨h1, h2, h3⟩ := h
    obtain ⟨G1, n1⟩ := M1
    replace h3 : n1 = nx := h3
    subst h3
    rcases hR with ⟨rfl, rfl⟩ | ⟨q, hq, rfl, rfl⟩
    · cases h1
    · cases h1
      simp only [List.mem_cons, List.not_mem_nil, or_false] at hq
      subst hq
      refine ⟨12, ct_PLaw_eventOf_0, fun q9 nx9 g1 g2 => ?_⟩
      refine ev_astoreR_n (k0 := 3) rfl (Nat.le_of_ble_eq_true rfl) d_PLaw_eventOf_12 ?_
      refine cw_iconst 1 d_PLaw_eventOf_13 rfl ?_
      exact ev_ireturn (st := []) rfl rfl d_PLaw_eventOf_14 ⟨rfl, f0, h2.same hC, g1, g2, fun z => absurd z (by decide)⟩
theorem LW_placeOf (d : Nat) {x1 : Int32} {o : String ⊕ Int32} {m : Mem} {r th : Int32} {mc1 ms1 : Nat} {f0 : Nat → RV} (hG : LM vc 0 535 μ G G) (hC : G 547 = some (true, 3, 1, f0)) (hR : RES [(xIOB, 1)] o r th) (hM : Mt g d m_P_placeOf [.inr (0, off 12 0), .inl (.int x1)] (G, nx) mc1 ms1 (pRW vc 0 535 (thR rI o) m G nx)) : Mt g (d + 1) m_PLaw_placeOf [.inr (0, 0), .inl (.int x1), .inr (0, 547)] (G, nx) mc1 ms1 (WR (r.toInt64) th m G nx) := by
  refine Mt.of9H [some (.inr (0, 0)), some (.inl (.int x1)), some (.inr (0, 547)), none] (by decide +kernel) (fun h => by cases h) rfl rfl rfl ?_
  refine ev_aload_n (k0 := 2) rfl d_PLaw_placeOf_0 ?_
  refine cw_iconst 0 d_PLaw_placeOf_1 rfl ?_
  refine ev_aload_n (k0 := 0) rfl d_PLaw_placeOf_2 ?_
  refine ev_iload_n (k0 := 1) rfl d_PLaw_placeOf_3 ?_
  refine Ev.room (mc := mc1 + 0) (ms := ms1 + 0) (ev_invVH (vs := [.inl (.int x1)]) (M := (G, nx)) (LM.obj (g := g) (nx := nx) hG v_12 rfl) lk_ProphecyShopLaw_40 hM rfl (Nat.le_of_ble_eq_true rfl) d_PLaw_placeOf_4 ⟨fun v M1 h => ?_, fun E M1 h => ?_⟩) (Nat.le_refl _) (Nat.le_refl _)
  · obtain ⟨h1, h2, h3⟩ := h
    obtain ⟨G1, n1⟩ := M1
    replace h3 : n1 = nx := h3
    subst h3
    have h5 : G1 547 = some (true, 3, 1, f0) := (h2.2 547 (Or.inr (by decide))).trans hC
    rcases hR with ⟨rfl, rfl⟩ | ⟨q, -, rfl, -⟩
    · cases h1
      refine ev_i2l d_PLaw_placeOf_7 ?_
      refine ev_last (M := (G1, n1)) h5 (i := 0) (show vp_in 0 1 from inb_vp (by decide)) d_PLaw_placeOf_8 ?_
      refine ev_goto (tgt := 15) (by decide) d_PLaw_placeOf_9 ?_
      refine cw_iconst 0 d_PLaw_placeOf_15 rfl ?_
      exact ev_ireturn (st := []) rfl rfl d_PLaw_placeOf_16 ⟨rfl, _, h2.out okC (by omega), Nat.le_refl _, Nat.le_add_right _ _, fun _ => updF_0⟩
    · cases h1
  · obtain ⟨h1, h2, h3⟩ := h
    obtain ⟨G1, n1⟩ := M1
    replace h3 : n1 = nx := h3
    subst h3
    rcases hR with ⟨rfl, rfl⟩ | ⟨q, hq, rfl, rfl⟩
    · cases h1
    · cases h1
      simp only [List.mem_cons, List.not_mem_nil, or_false] at hq
      subst hq
      refine ⟨12, ct_PLaw_placeOf_0, fun q9 nx9 g1 g2 => ?_⟩
      refine ev_astoreR_n (k0 := 3) rfl (Nat.le_of_ble_eq_true rfl) d_PLaw_placeOf_12 ?_
      refine cw_iconst 1 d_PLaw_placeOf_13 rfl ?_
      exact ev_ireturn (st := []) rfl rfl d_PLaw_placeOf_14 ⟨rfl, f0, h2.same hC, g1, g2, fun z => absurd z (by decide)⟩
theorem LW_isDenial (d : Nat) {x1 : Int32} {o : String ⊕ Int32} {m : Mem} {r th : Int32} {mc1 ms1 : Nat} {f0 : Nat → RV} (hG : LM vc 0 535 μ G G) (hC : G 547 = some (true, 3, 1, f0)) (hR : RES [(xIOB, 1)] o r th) (hM : Mt g d m_P_isDenial [.inr (0, off 12 0), .inl (.int x1)] (G, nx) mc1 ms1 (pRW vc 0 535 (thR rI o) m G nx)) : Mt g (d + 1) m_PLaw_isDenial [.inr (0, 0), .inl (.int x1), .inr (0, 547)] (G, nx) mc1 ms1 (WR (bzL r) th m G nx) := by
  refine Mt.of9H [some (.inr (0, 0)), some (.inl (.int x1)), some (.inr (0, 547)), none] (by decide +kernel) (fun h => by cases h) rfl rfl rfl ?_
  refine ev_aload_n (k0 := 2) rfl d_PLaw_isDenial_0 ?_
  refine cw_iconst 0 d_PLaw_isDenial_1 rfl ?_
  refine ev_aload_n (k0 := 0) rfl d_PLaw_isDenial_2 ?_
  refine ev_iload_n (k0 := 1) rfl d_PLaw_isDenial_3 ?_
  refine Ev.room (mc := mc1 + 0) (ms := ms1 + 0) (ev_invVH (vs := [.inl (.int x1)]) (M := (G, nx)) (LM.obj (g := g) (nx := nx) hG v_12 rfl) lk_ProphecyShopLaw_43 hM rfl (Nat.le_of_ble_eq_true rfl) d_PLaw_isDenial_4 ⟨fun v M1 h => ?_, fun E M1 h => ?_⟩) (Nat.le_refl _) (Nat.le_refl _)
  · obtain ⟨h1, h2, h3⟩ := h
    obtain ⟨G1, n1⟩ := M1
    replace h3 : n1 = nx := h3
    subst h3
    have h5 : G1 547 = some (true, 3, 1, f0) := (h2.2 547 (Or.inr (by decide))).trans hC
    rcases hR with ⟨rfl, rfl⟩ | ⟨q, -, rfl, -⟩
    · cases h1
      refine ev_if_eq (tgt := 14) (by decide) d_PLaw_isDenial_7 (fun c => ?_) (fun c => ?_)
      · refine ev_lconst (n := 0) d_PLaw_isDenial_14 ?_
        refine ev_last (M := (G1, n1)) h5 (i := 0) (show vp_in 0 1 from inb_vp (by decide)) d_PLaw_isDenial_15 ?_
        refine ev_goto (tgt := 22) (by decide) d_PLaw_isDenial_16 ?_
        refine cw_iconst 0 d_PLaw_isDenial_22 rfl ?_
        exact ev_ireturn (st := []) rfl rfl d_PLaw_isDenial_23 ⟨rfl, _, h2.out okC (by omega), Nat.le_refl _, Nat.le_add_right _ _, fun _ => updF_0.trans (by rw [bzL_0 c]; rfl)⟩
      · refine ev_lconst (n := 1) d_PLaw_isDenial_10 ?_
        refine ev_goto (tgt := 15) (by decide) d_PLaw_isDenial_11 ?_
        refine ev_last (M := (G1, n1)) h5 (i := 0) (show vp_in 0 1 from inb_vp (by decide)) d_PLaw_isDenial_15 ?_
        refine ev_goto (tgt := 22) (by decide) d_PLaw_isDenial_16 ?_
        refine cw_iconst 0 d_PLaw_isDenial_22 rfl ?_
        exact ev_ireturn (st := []) rfl rfl d_PLaw_isDenial_23 ⟨rfl, _, h2.out okC (by omega), Nat.le_refl _, Nat.le_add_right _ _, fun _ => updF_0.trans (by rw [bzL_1 c]; rfl)⟩
    · cases h1
  · obtain ⟨h1, h2, h3⟩ := h
    obtain ⟨G1, n1⟩ := M1
    replace h3 : n1 = nx := h3
    subst h3
    rcases hR with ⟨rfl, rfl⟩ | ⟨q, hq, rfl, rfl⟩
    · cases h1
    · cases h1
      simp only [List.mem_cons, List.not_mem_nil, or_false] at hq
      subst hq
      refine ⟨19, ct_PLaw_isDenial_0, fun q9 nx9 g1 g2 => ?_⟩
      refine ev_astoreR_n (k0 := 3) rfl (Nat.le_of_ble_eq_true rfl) d_PLaw_isDenial_19 ?_
      refine cw_iconst 1 d_PLaw_isDenial_20 rfl ?_
      exact ev_ireturn (st := []) rfl rfl d_PLaw_isDenial_21 ⟨rfl, f0, h2.same hC, g1, g2, fun z => absurd z (by decide)⟩
theorem LW_firstDay (d : Nat) {x1 : Int32} {o : String ⊕ Int32} {m : Mem} {r th : Int32} {mc1 ms1 : Nat} {f0 : Nat → RV} (hG : LM vc 0 535 μ G G) (hC : G 547 = some (true, 3, 1, f0)) (hR : RES [(xIOB, 1)] o r th) (hM : Mt g d m_P_firstDay [.inr (0, off 12 0), .inl (.int x1)] (G, nx) mc1 ms1 (pRW vc 0 535 (thR rI o) m G nx)) : Mt g (d + 1) m_PLaw_firstDay [.inr (0, 0), .inl (.int x1), .inr (0, 547)] (G, nx) mc1 ms1 (WR (r.toInt64) th m G nx) := by
  refine Mt.of9H [some (.inr (0, 0)), some (.inl (.int x1)), some (.inr (0, 547)), none] (by decide +kernel) (fun h => by cases h) rfl rfl rfl ?_
  refine ev_aload_n (k0 := 2) rfl d_PLaw_firstDay_0 ?_
  refine cw_iconst 0 d_PLaw_firstDay_1 rfl ?_
  refine ev_aload_n (k0 := 0) rfl d_PLaw_firstDay_2 ?_
  refine ev_iload_n (k0 := 1) rfl d_PLaw_firstDay_3 ?_
  refine Ev.room (mc := mc1 + 0) (ms := ms1 + 0) (ev_invVH (vs := [.inl (.int x1)]) (M := (G, nx)) (LM.obj (g := g) (nx := nx) hG v_12 rfl) lk_ProphecyShopLaw_47 hM rfl (Nat.le_of_ble_eq_true rfl) d_PLaw_firstDay_4 ⟨fun v M1 h => ?_, fun E M1 h => ?_⟩) (Nat.le_refl _) (Nat.le_refl _)
  · obtain ⟨h1, h2, h3⟩ := h
    obtain ⟨G1, n1⟩ := M1
    replace h3 : n1 = nx := h3
    subst h3
    have h5 : G1 547 = some (true, 3, 1, f0) := (h2.2 547 (Or.inr (by decide))).trans hC
    rcases hR with ⟨rfl, rfl⟩ | ⟨q, -, rfl, -⟩
    · cases h1
      refine ev_i2l d_PLaw_firstDay_7 ?_
      refine ev_last (M := (G1, n1)) h5 (i := 0) (show vp_in 0 1 from inb_vp (by decide)) d_PLaw_firstDay_8 ?_
      refine ev_goto (tgt := 15) (by decide) d_PLaw_firstDay_9 ?_
      refine cw_iconst 0 d_PLaw_firstDay_15 rfl ?_
      exact ev_ireturn (st := []) rfl rfl d_PLaw_firstDay_16 ⟨rfl, _, h2.out okC (by omega), Nat.le_refl _, Nat.le_add_right _ _, fun _ => updF_0⟩
    · cases h1
  · obtain ⟨h1, h2, h3⟩ := h
    obtain ⟨G1, n1⟩ := M1
    replace h3 : n1 = nx := h3
    subst h3
    rcases hR with ⟨rfl, rfl⟩ | ⟨q, hq, rfl, rfl⟩
    · cases h1
    · cases h1
      simp only [List.mem_cons, List.not_mem_nil, or_false] at hq
      subst hq
      refine ⟨12, ct_PLaw_firstDay_0, fun q9 nx9 g1 g2 => ?_⟩
      refine ev_astoreR_n (k0 := 3) rfl (Nat.le_of_ble_eq_true rfl) d_PLaw_firstDay_12 ?_
      refine cw_iconst 1 d_PLaw_firstDay_13 rfl ?_
      exact ev_ireturn (st := []) rfl rfl d_PLaw_firstDay_14 ⟨rfl, f0, h2.same hC, g1, g2, fun z => absurd z (by decide)⟩
theorem LW_lastDay (d : Nat) {x1 : Int32} {o : String ⊕ Int32} {m : Mem} {r th : Int32} {mc1 ms1 : Nat} {f0 : Nat → RV} (hG : LM vc 0 535 μ G G) (hC : G 547 = some (true, 3, 1, f0)) (hR : RES [(xIOB, 1)] o r th) (hM : Mt g d m_P_lastDay [.inr (0, off 12 0), .inl (.int x1)] (G, nx) mc1 ms1 (pRW vc 0 535 (thR rI o) m G nx)) : Mt g (d + 1) m_PLaw_lastDay [.inr (0, 0), .inl (.int x1), .inr (0, 547)] (G, nx) mc1 ms1 (WR (r.toInt64) th m G nx) := by
  refine Mt.of9H [some (.inr (0, 0)), some (.inl (.int x1)), some (.inr (0, 547)), none] (by decide +kernel) (fun h => by cases h) rfl rfl rfl ?_
  refine ev_aload_n (k0 := 2) rfl d_PLaw_lastDay_0 ?_
  refine cw_iconst 0 d_PLaw_lastDay_1 rfl ?_
  refine ev_aload_n (k0 := 0) rfl d_PLaw_lastDay_2 ?_
  refine ev_iload_n (k0 := 1) rfl d_PLaw_lastDay_3 ?_
  refine Ev.room (mc := mc1 + 0) (ms := ms1 + 0) (ev_invVH (vs := [.inl (.int x1)]) (M := (G, nx)) (LM.obj (g := g) (nx := nx) hG v_12 rfl) lk_ProphecyShopLaw_50 hM rfl (Nat.le_of_ble_eq_true rfl) d_PLaw_lastDay_4 ⟨fun v M1 h => ?_, fun E M1 h => ?_⟩) (Nat.le_refl _) (Nat.le_refl _)
  · obtain ⟨h1, h2, h3⟩ := h
    obtain ⟨G1, n1⟩ := M1
    replace h3 : n1 = nx := h3
    subst h3
    have h5 : G1 547 = some (true, 3, 1, f0) := (h2.2 547 (Or.inr (by decide))).trans hC
    rcases hR with ⟨rfl, rfl⟩ | ⟨q, -, rfl, -⟩
    · cases h1
      refine ev_i2l d_PLaw_lastDay_7 ?_
      refine ev_last (M := (G1, n1)) h5 (i := 0) (show vp_in 0 1 from inb_vp (by decide)) d_PLaw_lastDay_8 ?_
      refine ev_goto (tgt := 15) (by decide) d_PLaw_lastDay_9 ?_
      refine cw_iconst 0 d_PLaw_lastDay_15 rfl ?_
      exact ev_ireturn (st := []) rfl rfl d_PLaw_lastDay_16 ⟨rfl, _, h2.out okC (by omega), Nat.le_refl _, Nat.le_add_right _ _, fun _ => updF_0⟩
    · cases h1
  · obtain ⟨h1, h2, h3⟩ := h
    obtain ⟨G1, n1⟩ := M1
    replace h3 : n1 = nx := h3
    subst h3
    rcases hR with ⟨rfl, rfl⟩ | ⟨q, hq, rfl, rfl⟩
    · cases h1
    · cases h1
      simp only [List.mem_cons, List.not_mem_nil, or_false] at hq
      subst hq
      refine ⟨12, ct_PLaw_lastDay_0, fun q9 nx9 g1 g2 => ?_⟩
      refine ev_astoreR_n (k0 := 3) rfl (Nat.le_of_ble_eq_true rfl) d_PLaw_lastDay_12 ?_
      refine cw_iconst 1 d_PLaw_lastDay_13 rfl ?_
      exact ev_ireturn (st := []) rfl rfl d_PLaw_lastDay_14 ⟨rfl, f0, h2.same hC, g1, g2, fun z => absurd z (by decide)⟩
theorem LW_stateOf (d : Nat) {x1 : Int32} {o : String ⊕ Int32} {m : Mem} {r th : Int32} {mc1 ms1 : Nat} {f0 : Nat → RV} (hG : LM vc 0 535 μ G G) (hC : G 547 = some (true, 3, 1, f0)) (hR : RES [(xIOB, 1)] o r th) (hM : Mt g d m_P_stateOf [.inr (0, off 12 0), .inl (.int x1)] (G, nx) mc1 ms1 (pRW vc 0 535 (thR rI o) m G nx)) : Mt g (d + 1) m_PLaw_stateOf [.inr (0, 0), .inl (.int x1), .inr (0, 547)] (G, nx) mc1 ms1 (WR (r.toInt64) th m G nx) := by
  refine Mt.of9H [some (.inr (0, 0)), some (.inl (.int x1)), some (.inr (0, 547)), none] (by decide +kernel) (fun h => by cases h) rfl rfl rfl ?_
  refine ev_aload_n (k0 := 2) rfl d_PLaw_stateOf_0 ?_
  refine cw_iconst 0 d_PLaw_stateOf_1 rfl ?_
  refine ev_aload_n (k0 := 0) rfl d_PLaw_stateOf_2 ?_
  refine ev_iload_n (k0 := 1) rfl d_PLaw_stateOf_3 ?_
  refine Ev.room (mc := mc1 + 0) (ms := ms1 + 0) (ev_invVH (vs := [.inl (.int x1)]) (M := (G, nx)) (LM.obj (g := g) (nx := nx) hG v_12 rfl) lk_ProphecyShopLaw_53 hM rfl (Nat.le_of_ble_eq_true rfl) d_PLaw_stateOf_4 ⟨fun v M1 h => ?_, fun E M1 h => ?_⟩) (Nat.le_refl _) (Nat.le_refl _)
  · obtain ⟨h1, h2, h3⟩ := h
    obtain ⟨G1, n1⟩ := M1
    replace h3 : n1 = nx := h3
    subst h3
    have h5 : G1 547 = some (true, 3, 1, f0) := (h2.2 547 (Or.inr (by decide))).trans hC
    rcases hR with ⟨rfl, rfl⟩ | ⟨q, -, rfl, -⟩
    · cases h1
      refine ev_i2l d_PLaw_stateOf_7 ?_
      refine ev_last (M := (G1, n1)) h5 (i := 0) (show vp_in 0 1 from inb_vp (by decide)) d_PLaw_stateOf_8 ?_
      refine ev_goto (tgt := 15) (by decide) d_PLaw_stateOf_9 ?_
      refine cw_iconst 0 d_PLaw_stateOf_15 rfl ?_
      exact ev_ireturn (st := []) rfl rfl d_PLaw_stateOf_16 ⟨rfl, _, h2.out okC (by omega), Nat.le_refl _, Nat.le_add_right _ _, fun _ => updF_0⟩
    · cases h1
  · obtain ⟨h1, h2, h3⟩ := h
    obtain ⟨G1, n1⟩ := M1
    replace h3 : n1 = nx := h3
    subst h3
    rcases hR with ⟨rfl, rfl⟩ | ⟨q, hq, rfl, rfl⟩
    · cases h1
    · cases h1
      simp only [List.mem_cons, List.not_mem_nil, or_false] at hq
      subst hq
      refine ⟨12, ct_PLaw_stateOf_0, fun q9 nx9 g1 g2 => ?_⟩
      refine ev_astoreR_n (k0 := 3) rfl (Nat.le_of_ble_eq_true rfl) d_PLaw_stateOf_12 ?_
      refine cw_iconst 1 d_PLaw_stateOf_13 rfl ?_
      exact ev_ireturn (st := []) rfl rfl d_PLaw_stateOf_14 ⟨rfl, f0, h2.same hC, g1, g2, fun z => absurd z (by decide)⟩
theorem LW_decidedOn (d : Nat) {x1 : Int32} {o : String ⊕ Int32} {m : Mem} {r th : Int32} {mc1 ms1 : Nat} {f0 : Nat → RV} (hG : LM vc 0 535 μ G G) (hC : G 547 = some (true, 3, 1, f0)) (hR : RES [(xIOB, 1), (xNSE, 2)] o r th) (hM : Mt g d m_P_decidedOn [.inr (0, off 12 0), .inl (.int x1)] (G, nx) mc1 ms1 (pRW vc 0 535 (thR rI o) m G nx)) : Mt g (d + 1) m_PLaw_decidedOn [.inr (0, 0), .inl (.int x1), .inr (0, 547)] (G, nx) mc1 ms1 (WR (r.toInt64) th m G nx) := by
  refine Mt.of9H [some (.inr (0, 0)), some (.inl (.int x1)), some (.inr (0, 547)), none] (by decide +kernel) (fun h => by cases h) rfl rfl rfl ?_
  refine ev_aload_n (k0 := 2) rfl d_PLaw_decidedOn_0 ?_
  refine cw_iconst 0 d_PLaw_decidedOn_1 rfl ?_
  refine ev_aload_n (k0 := 0) rfl d_PLaw_decidedOn_2 ?_
  refine ev_iload_n (k0 := 1) rfl d_PLaw_decidedOn_3 ?_
  refine Ev.room (mc := mc1 + 0) (ms := ms1 + 0) (ev_invVH (vs := [.inl (.int x1)]) (M := (G, nx)) (LM.obj (g := g) (nx := nx) hG v_12 rfl) lk_ProphecyShopLaw_56 hM rfl (Nat.le_of_ble_eq_true rfl) d_PLaw_decidedOn_4 ⟨fun v M1 h => ?_, fun E M1 h => ?_⟩) (Nat.le_refl _) (Nat.le_refl _)
  · obtain ⟨h1, h2, h3⟩ := h
    obtain ⟨G1, n1⟩ := M1
    replace h3 : n1 = nx := h3
    subst h3
    have h5 : G1 547 = some (true, 3, 1, f0) := (h2.2 547 (Or.inr (by decide))).trans hC
    rcases hR with ⟨rfl, rfl⟩ | ⟨q, -, rfl, -⟩
    · cases h1
      refine ev_i2l d_PLaw_decidedOn_7 ?_
      refine ev_last (M := (G1, n1)) h5 (i := 0) (show vp_in 0 1 from inb_vp (by decide)) d_PLaw_decidedOn_8 ?_
      refine ev_goto (tgt := 18) (by decide) d_PLaw_decidedOn_9 ?_
      refine cw_iconst 0 d_PLaw_decidedOn_18 rfl ?_
      exact ev_ireturn (st := []) rfl rfl d_PLaw_decidedOn_19 ⟨rfl, _, h2.out okC (by omega), Nat.le_refl _, Nat.le_add_right _ _, fun _ => updF_0⟩
    · cases h1
  · obtain ⟨h1, h2, h3⟩ := h
    obtain ⟨G1, n1⟩ := M1
    replace h3 : n1 = nx := h3
    subst h3
    rcases hR with ⟨rfl, rfl⟩ | ⟨q, hq, rfl, rfl⟩
    · cases h1
    · cases h1
      simp only [List.mem_cons, List.not_mem_nil, or_false] at hq
      rcases hq with rfl | rfl
      · refine ⟨12, ct_PLaw_decidedOn_0, fun q9 nx9 g1 g2 => ?_⟩
        refine ev_astoreR_n (k0 := 3) rfl (Nat.le_of_ble_eq_true rfl) d_PLaw_decidedOn_12 ?_
        refine cw_iconst 1 d_PLaw_decidedOn_13 rfl ?_
        exact ev_ireturn (st := []) rfl rfl d_PLaw_decidedOn_14 ⟨rfl, f0, h2.same hC, g1, g2, fun z => absurd z (by decide)⟩
      · refine ⟨15, ct_PLaw_decidedOn_1, fun q9 nx9 g1 g2 => ?_⟩
        refine ev_astoreR_n (k0 := 3) rfl (Nat.le_of_ble_eq_true rfl) d_PLaw_decidedOn_15 ?_
        refine cw_iconst 2 d_PLaw_decidedOn_16 rfl ?_
        exact ev_ireturn (st := []) rfl rfl d_PLaw_decidedOn_17 ⟨rfl, f0, h2.same hC, g1, g2, fun z => absurd z (by decide)⟩
theorem LW_refundOf (d : Nat) {x1 : Int32} {o : String ⊕ Int32} {m : Mem} {r th : Int32} {mc1 ms1 : Nat} {f0 : Nat → RV} (hG : LM vc 0 535 μ G G) (hC : G 547 = some (true, 3, 1, f0)) (hR : RES [(xIOB, 1)] o r th) (hM : Mt g d m_P_refundOf [.inr (0, off 12 0), .inl (.int x1)] (G, nx) mc1 ms1 (pRW vc 0 535 (thR rI o) m G nx)) : Mt g (d + 1) m_PLaw_refundOf [.inr (0, 0), .inl (.int x1), .inr (0, 547)] (G, nx) mc1 ms1 (WR (r.toInt64) th m G nx) := by
  refine Mt.of9H [some (.inr (0, 0)), some (.inl (.int x1)), some (.inr (0, 547)), none] (by decide +kernel) (fun h => by cases h) rfl rfl rfl ?_
  refine ev_aload_n (k0 := 2) rfl d_PLaw_refundOf_0 ?_
  refine cw_iconst 0 d_PLaw_refundOf_1 rfl ?_
  refine ev_aload_n (k0 := 0) rfl d_PLaw_refundOf_2 ?_
  refine ev_iload_n (k0 := 1) rfl d_PLaw_refundOf_3 ?_
  refine Ev.room (mc := mc1 + 0) (ms := ms1 + 0) (ev_invVH (vs := [.inl (.int x1)]) (M := (G, nx)) (LM.obj (g := g) (nx := nx) hG v_12 rfl) lk_ProphecyShopLaw_61 hM rfl (Nat.le_of_ble_eq_true rfl) d_PLaw_refundOf_4 ⟨fun v M1 h => ?_, fun E M1 h => ?_⟩) (Nat.le_refl _) (Nat.le_refl _)
  · obtain ⟨h1, h2, h3⟩ := h
    obtain ⟨G1, n1⟩ := M1
    replace h3 : n1 = nx := h3
    subst h3
    have h5 : G1 547 = some (true, 3, 1, f0) := (h2.2 547 (Or.inr (by decide))).trans hC
    rcases hR with ⟨rfl, rfl⟩ | ⟨q, -, rfl, -⟩
    · cases h1
      refine ev_i2l d_PLaw_refundOf_7 ?_
      refine ev_last (M := (G1, n1)) h5 (i := 0) (show vp_in 0 1 from inb_vp (by decide)) d_PLaw_refundOf_8 ?_
      refine ev_goto (tgt := 15) (by decide) d_PLaw_refundOf_9 ?_
      refine cw_iconst 0 d_PLaw_refundOf_15 rfl ?_
      exact ev_ireturn (st := []) rfl rfl d_PLaw_refundOf_16 ⟨rfl, _, h2.out okC (by omega), Nat.le_refl _, Nat.le_add_right _ _, fun _ => updF_0⟩
    · cases h1
  · obtain ⟨h1, h2, h3⟩ := h
    obtain ⟨G1, n1⟩ := M1
    replace h3 : n1 = nx := h3
    subst h3
    rcases hR with ⟨rfl, rfl⟩ | ⟨q, hq, rfl, rfl⟩
    · cases h1
    · cases h1
      simp only [List.mem_cons, List.not_mem_nil, or_false] at hq
      subst hq
      refine ⟨12, ct_PLaw_refundOf_0, fun q9 nx9 g1 g2 => ?_⟩
      refine ev_astoreR_n (k0 := 3) rfl (Nat.le_of_ble_eq_true rfl) d_PLaw_refundOf_12 ?_
      refine cw_iconst 1 d_PLaw_refundOf_13 rfl ?_
      exact ev_ireturn (st := []) rfl rfl d_PLaw_refundOf_14 ⟨rfl, f0, h2.same hC, g1, g2, fun z => absurd z (by decide)⟩
theorem LW_placeInQueue (d : Nat) {x1 : Int32} {o : String ⊕ Int32} {m : Mem} {r th : Int32} {mc1 ms1 : Nat} {f0 : Nat → RV} (hG : LM vc 0 535 μ G G) (hC : G 547 = some (true, 3, 1, f0)) (hR : RES [(xIOB, 1)] o r th) (hM : Mt g d m_P_placeInQueue [.inr (0, off 12 0), .inl (.int x1)] (G, nx) mc1 ms1 (pRW vc 0 535 (thR rI o) m G nx)) : Mt g (d + 1) m_PLaw_placeInQueue [.inr (0, 0), .inl (.int x1), .inr (0, 547)] (G, nx) mc1 ms1 (WR (r.toInt64) th m G nx) := by
  refine Mt.of9H [some (.inr (0, 0)), some (.inl (.int x1)), some (.inr (0, 547)), none] (by decide +kernel) (fun h => by cases h) rfl rfl rfl ?_
  refine ev_aload_n (k0 := 2) rfl d_PLaw_placeInQueue_0 ?_
  refine cw_iconst 0 d_PLaw_placeInQueue_1 rfl ?_
  refine ev_aload_n (k0 := 0) rfl d_PLaw_placeInQueue_2 ?_
  refine ev_iload_n (k0 := 1) rfl d_PLaw_placeInQueue_3 ?_
  refine Ev.room (mc := mc1 + 0) (ms := ms1 + 0) (ev_invVH (vs := [.inl (.int x1)]) (M := (G, nx)) (LM.obj (g := g) (nx := nx) hG v_12 rfl) lk_ProphecyShopLaw_64 hM rfl (Nat.le_of_ble_eq_true rfl) d_PLaw_placeInQueue_4 ⟨fun v M1 h => ?_, fun E M1 h => ?_⟩) (Nat.le_refl _) (Nat.le_refl _)
  · obtain ⟨h1, h2, h3⟩ := h
    obtain ⟨G1, n1⟩ := M1
    replace h3 : n1 = nx := h3
    subst h3
    have h5 : G1 547 = some (true, 3, 1, f0) := (h2.2 547 (Or.inr (by decide))).trans hC
    rcases hR with ⟨rfl, rfl⟩ | ⟨q, -, rfl, -⟩
    · cases h1
      refine ev_i2l d_PLaw_placeInQueue_7 ?_
      refine ev_last (M := (G1, n1)) h5 (i := 0) (show vp_in 0 1 from inb_vp (by decide)) d_PLaw_placeInQueue_8 ?_
      refine ev_goto (tgt := 15) (by decide) d_PLaw_placeInQueue_9 ?_
      refine cw_iconst 0 d_PLaw_placeInQueue_15 rfl ?_
      exact ev_ireturn (st := []) rfl rfl d_PLaw_placeInQueue_16 ⟨rfl, _, h2.out okC (by omega), Nat.le_refl _, Nat.le_add_right _ _, fun _ => updF_0⟩
    · cases h1
  · obtain ⟨h1, h2, h3⟩ := h
    obtain ⟨G1, n1⟩ := M1
    replace h3 : n1 = nx := h3
    subst h3
    rcases hR with ⟨rfl, rfl⟩ | ⟨q, hq, rfl, rfl⟩
    · cases h1
    · cases h1
      simp only [List.mem_cons, List.not_mem_nil, or_false] at hq
      subst hq
      refine ⟨12, ct_PLaw_placeInQueue_0, fun q9 nx9 g1 g2 => ?_⟩
      refine ev_astoreR_n (k0 := 3) rfl (Nat.le_of_ble_eq_true rfl) d_PLaw_placeInQueue_12 ?_
      refine cw_iconst 1 d_PLaw_placeInQueue_13 rfl ?_
      exact ev_ireturn (st := []) rfl rfl d_PLaw_placeInQueue_14 ⟨rfl, f0, h2.same hC, g1, g2, fun z => absurd z (by decide)⟩
theorem LW_answerFor (d : Nat) {x1 : Int32} {o : String ⊕ Int32} {m : Mem} {r th : Int32} {mc1 ms1 : Nat} {f0 : Nat → RV} (hG : LM vc 0 535 μ G G) (hC : G 547 = some (true, 3, 1, f0)) (hR : RES [(xIOB, 1)] o r th) (hM : Mt g d m_P_answerFor [.inr (0, off 12 0), .inl (.int x1)] (G, nx) mc1 ms1 (pRW vc 0 535 (thR rI o) m G nx)) : Mt g (d + 1) m_PLaw_answerFor [.inr (0, 0), .inl (.int x1), .inr (0, 547)] (G, nx) mc1 ms1 (WR (r.toInt64) th m G nx) := by
  refine Mt.of9H [some (.inr (0, 0)), some (.inl (.int x1)), some (.inr (0, 547)), none] (by decide +kernel) (fun h => by cases h) rfl rfl rfl ?_
  refine ev_aload_n (k0 := 2) rfl d_PLaw_answerFor_0 ?_
  refine cw_iconst 0 d_PLaw_answerFor_1 rfl ?_
  refine ev_aload_n (k0 := 0) rfl d_PLaw_answerFor_2 ?_
  refine ev_iload_n (k0 := 1) rfl d_PLaw_answerFor_3 ?_
  refine Ev.room (mc := mc1 + 0) (ms := ms1 + 0) (ev_invVH (vs := [.inl (.int x1)]) (M := (G, nx)) (LM.obj (g := g) (nx := nx) hG v_12 rfl) lk_ProphecyShopLaw_67 hM rfl (Nat.le_of_ble_eq_true rfl) d_PLaw_answerFor_4 ⟨fun v M1 h => ?_, fun E M1 h => ?_⟩) (Nat.le_refl _) (Nat.le_refl _)
  · obtain ⟨h1, h2, h3⟩ := h
    obtain ⟨G1, n1⟩ := M1
    replace h3 : n1 = nx := h3
    subst h3
    have h5 : G1 547 = some (true, 3, 1, f0) := (h2.2 547 (Or.inr (by decide))).trans hC
    rcases hR with ⟨rfl, rfl⟩ | ⟨q, -, rfl, -⟩
    · cases h1
      refine ev_i2l d_PLaw_answerFor_7 ?_
      refine ev_last (M := (G1, n1)) h5 (i := 0) (show vp_in 0 1 from inb_vp (by decide)) d_PLaw_answerFor_8 ?_
      refine ev_goto (tgt := 15) (by decide) d_PLaw_answerFor_9 ?_
      refine cw_iconst 0 d_PLaw_answerFor_15 rfl ?_
      exact ev_ireturn (st := []) rfl rfl d_PLaw_answerFor_16 ⟨rfl, _, h2.out okC (by omega), Nat.le_refl _, Nat.le_add_right _ _, fun _ => updF_0⟩
    · cases h1
  · obtain ⟨h1, h2, h3⟩ := h
    obtain ⟨G1, n1⟩ := M1
    replace h3 : n1 = nx := h3
    subst h3
    rcases hR with ⟨rfl, rfl⟩ | ⟨q, hq, rfl, rfl⟩
    · cases h1
    · cases h1
      simp only [List.mem_cons, List.not_mem_nil, or_false] at hq
      subst hq
      refine ⟨12, ct_PLaw_answerFor_0, fun q9 nx9 g1 g2 => ?_⟩
      refine ev_astoreR_n (k0 := 3) rfl (Nat.le_of_ble_eq_true rfl) d_PLaw_answerFor_12 ?_
      refine cw_iconst 1 d_PLaw_answerFor_13 rfl ?_
      exact ev_ireturn (st := []) rfl rfl d_PLaw_answerFor_14 ⟨rfl, f0, h2.same hC, g1, g2, fun z => absurd z (by decide)⟩
theorem LW_expectedAnswer (d : Nat) {x1 : Int32} {o : String ⊕ Int32} {m : Mem} {r th : Int32} {mc1 ms1 : Nat} {f0 : Nat → RV} (hG : LM vc 0 535 μ G G) (hC : G 547 = some (true, 3, 1, f0)) (hR : RES [(xIOB, 1)] o r th) (hM : Mt g d m_P_expectedAnswer [.inr (0, off 12 0), .inl (.int x1)] (G, nx) mc1 ms1 (pRW vc 0 535 (thR rI o) m G nx)) : Mt g (d + 1) m_PLaw_expectedAnswer [.inr (0, 0), .inl (.int x1), .inr (0, 547)] (G, nx) mc1 ms1 (WR (r.toInt64) th m G nx) := by
  refine Mt.of9H [some (.inr (0, 0)), some (.inl (.int x1)), some (.inr (0, 547)), none] (by decide +kernel) (fun h => by cases h) rfl rfl rfl ?_
  refine ev_aload_n (k0 := 2) rfl d_PLaw_expectedAnswer_0 ?_
  refine cw_iconst 0 d_PLaw_expectedAnswer_1 rfl ?_
  refine ev_aload_n (k0 := 0) rfl d_PLaw_expectedAnswer_2 ?_
  refine ev_iload_n (k0 := 1) rfl d_PLaw_expectedAnswer_3 ?_
  refine Ev.room (mc := mc1 + 0) (ms := ms1 + 0) (ev_invVH (vs := [.inl (.int x1)]) (M := (G, nx)) (LM.obj (g := g) (nx := nx) hG v_12 rfl) lk_ProphecyShopLaw_70 hM rfl (Nat.le_of_ble_eq_true rfl) d_PLaw_expectedAnswer_4 ⟨fun v M1 h => ?_, fun E M1 h => ?_⟩) (Nat.le_refl _) (Nat.le_refl _)
  · obtain ⟨h1, h2, h3⟩ := h
    obtain ⟨G1, n1⟩ := M1
    replace h3 : n1 = nx := h3
    subst h3
    have h5 : G1 547 = some (true, 3, 1, f0) := (h2.2 547 (Or.inr (by decide))).trans hC
    rcases hR with ⟨rfl, rfl⟩ | ⟨q, -, rfl, -⟩
    · cases h1
      refine ev_i2l d_PLaw_expectedAnswer_7 ?_
      refine ev_last (M := (G1, n1)) h5 (i := 0) (show vp_in 0 1 from inb_vp (by decide)) d_PLaw_expectedAnswer_8 ?_
      refine ev_goto (tgt := 15) (by decide) d_PLaw_expectedAnswer_9 ?_
      refine cw_iconst 0 d_PLaw_expectedAnswer_15 rfl ?_
      exact ev_ireturn (st := []) rfl rfl d_PLaw_expectedAnswer_16 ⟨rfl, _, h2.out okC (by omega), Nat.le_refl _, Nat.le_add_right _ _, fun _ => updF_0⟩
    · cases h1
  · obtain ⟨h1, h2, h3⟩ := h
    obtain ⟨G1, n1⟩ := M1
    replace h3 : n1 = nx := h3
    subst h3
    rcases hR with ⟨rfl, rfl⟩ | ⟨q, hq, rfl, rfl⟩
    · cases h1
    · cases h1
      simp only [List.mem_cons, List.not_mem_nil, or_false] at hq
      subst hq
      refine ⟨12, ct_PLaw_expectedAnswer_0, fun q9 nx9 g1 g2 => ?_⟩
      refine ev_astoreR_n (k0 := 3) rfl (Nat.le_of_ble_eq_true rfl) d_PLaw_expectedAnswer_12 ?_
      refine cw_iconst 1 d_PLaw_expectedAnswer_13 rfl ?_
      exact ev_ireturn (st := []) rfl rfl d_PLaw_expectedAnswer_14 ⟨rfl, f0, h2.same hC, g1, g2, fun z => absurd z (by decide)⟩
theorem LW_owlDays (d : Nat) {x1 : Int32} {o : String ⊕ Int32} {m : Mem} {r th : Int32} {mc1 ms1 : Nat} {f0 : Nat → RV} (hG : LM vc 0 535 μ G G) (hC : G 547 = some (true, 3, 1, f0)) (hR : RES [(xIOB, 1)] o r th) (hM : Mt g d m_P_owlDays [.inr (0, off 12 0), .inl (.int x1)] (G, nx) mc1 ms1 (pRW vc 0 535 (thR rI o) m G nx)) : Mt g (d + 1) m_PLaw_owlDays [.inr (0, 0), .inl (.int x1), .inr (0, 547)] (G, nx) mc1 ms1 (WR (r.toInt64) th m G nx) := by
  refine Mt.of9H [some (.inr (0, 0)), some (.inl (.int x1)), some (.inr (0, 547)), none] (by decide +kernel) (fun h => by cases h) rfl rfl rfl ?_
  refine ev_aload_n (k0 := 2) rfl d_PLaw_owlDays_0 ?_
  refine cw_iconst 0 d_PLaw_owlDays_1 rfl ?_
  refine ev_aload_n (k0 := 0) rfl d_PLaw_owlDays_2 ?_
  refine ev_iload_n (k0 := 1) rfl d_PLaw_owlDays_3 ?_
  refine Ev.room (mc := mc1 + 0) (ms := ms1 + 0) (ev_invVH (vs := [.inl (.int x1)]) (M := (G, nx)) (LM.obj (g := g) (nx := nx) hG v_12 rfl) lk_ProphecyShopLaw_73 hM rfl (Nat.le_of_ble_eq_true rfl) d_PLaw_owlDays_4 ⟨fun v M1 h => ?_, fun E M1 h => ?_⟩) (Nat.le_refl _) (Nat.le_refl _)
  · obtain ⟨h1, h2, h3⟩ := h
    obtain ⟨G1, n1⟩ := M1
    replace h3 : n1 = nx := h3
    subst h3
    have h5 : G1 547 = some (true, 3, 1, f0) := (h2.2 547 (Or.inr (by decide))).trans hC
    rcases hR with ⟨rfl, rfl⟩ | ⟨q, -, rfl, -⟩
    · cases h1
      refine ev_i2l d_PLaw_owlDays_7 ?_
      refine ev_last (M := (G1, n1)) h5 (i := 0) (show vp_in 0 1 from inb_vp (by decide)) d_PLaw_owlDays_8 ?_
      refine ev_goto (tgt := 15) (by decide) d_PLaw_owlDays_9 ?_
      refine cw_iconst 0 d_PLaw_owlDays_15 rfl ?_
      exact ev_ireturn (st := []) rfl rfl d_PLaw_owlDays_16 ⟨rfl, _, h2.out okC (by omega), Nat.le_refl _, Nat.le_add_right _ _, fun _ => updF_0⟩
    · cases h1
  · obtain ⟨h1, h2, h3⟩ := h
    obtain ⟨G1, n1⟩ := M1
    replace h3 : n1 = nx := h3
    subst h3
    rcases hR with ⟨rfl, rfl⟩ | ⟨q, hq, rfl, rfl⟩
    · cases h1
    · cases h1
      simp only [List.mem_cons, List.not_mem_nil, or_false] at hq
      subst hq
      refine ⟨12, ct_PLaw_owlDays_0, fun q9 nx9 g1 g2 => ?_⟩
      refine ev_astoreR_n (k0 := 3) rfl (Nat.le_of_ble_eq_true rfl) d_PLaw_owlDays_12 ?_
      refine cw_iconst 1 d_PLaw_owlDays_13 rfl ?_
      exact ev_ireturn (st := []) rfl rfl d_PLaw_owlDays_14 ⟨rfl, f0, h2.same hC, g1, g2, fun z => absurd z (by decide)⟩
theorem LW_owlCoins (d : Nat) {x1 : Int32} {o : String ⊕ Int32} {m : Mem} {r th : Int32} {mc1 ms1 : Nat} {f0 : Nat → RV} (hG : LM vc 0 535 μ G G) (hC : G 547 = some (true, 3, 1, f0)) (hR : RES [(xIOB, 1)] o r th) (hM : Mt g d m_P_owlCoins [.inr (0, off 12 0), .inl (.int x1)] (G, nx) mc1 ms1 (pRW vc 0 535 (thR rI o) m G nx)) : Mt g (d + 1) m_PLaw_owlCoins [.inr (0, 0), .inl (.int x1), .inr (0, 547)] (G, nx) mc1 ms1 (WR (r.toInt64) th m G nx) := by
  refine Mt.of9H [some (.inr (0, 0)), some (.inl (.int x1)), some (.inr (0, 547)), none] (by decide +kernel) (fun h => by cases h) rfl rfl rfl ?_
  refine ev_aload_n (k0 := 2) rfl d_PLaw_owlCoins_0 ?_
  refine cw_iconst 0 d_PLaw_owlCoins_1 rfl ?_
  refine ev_aload_n (k0 := 0) rfl d_PLaw_owlCoins_2 ?_
  refine ev_iload_n (k0 := 1) rfl d_PLaw_owlCoins_3 ?_
  refine Ev.room (mc := mc1 + 0) (ms := ms1 + 0) (ev_invVH (vs := [.inl (.int x1)]) (M := (G, nx)) (LM.obj (g := g) (nx := nx) hG v_12 rfl) lk_ProphecyShopLaw_76 hM rfl (Nat.le_of_ble_eq_true rfl) d_PLaw_owlCoins_4 ⟨fun v M1 h => ?_, fun E M1 h => ?_⟩) (Nat.le_refl _) (Nat.le_refl _)
  · obtain ⟨h1, h2, h3⟩ := h
    obtain ⟨G1, n1⟩ := M1
    replace h3 : n1 = nx := h3
    subst h3
    have h5 : G1 547 = some (true, 3, 1, f0) := (h2.2 547 (Or.inr (by decide))).trans hC
    rcases hR with ⟨rfl, rfl⟩ | ⟨q, -, rfl, -⟩
    · cases h1
      refine ev_i2l d_PLaw_owlCoins_7 ?_
      refine ev_last (M := (G1, n1)) h5 (i := 0) (show vp_in 0 1 from inb_vp (by decide)) d_PLaw_owlCoins_8 ?_
      refine ev_goto (tgt := 15) (by decide) d_PLaw_owlCoins_9 ?_
      refine cw_iconst 0 d_PLaw_owlCoins_15 rfl ?_
      exact ev_ireturn (st := []) rfl rfl d_PLaw_owlCoins_16 ⟨rfl, _, h2.out okC (by omega), Nat.le_refl _, Nat.le_add_right _ _, fun _ => updF_0⟩
    · cases h1
  · obtain ⟨h1, h2, h3⟩ := h
    obtain ⟨G1, n1⟩ := M1
    replace h3 : n1 = nx := h3
    subst h3
    rcases hR with ⟨rfl, rfl⟩ | ⟨q, hq, rfl, rfl⟩
    · cases h1
    · cases h1
      simp only [List.mem_cons, List.not_mem_nil, or_false] at hq
      subst hq
      refine ⟨12, ct_PLaw_owlCoins_0, fun q9 nx9 g1 g2 => ?_⟩
      refine ev_astoreR_n (k0 := 3) rfl (Nat.le_of_ble_eq_true rfl) d_PLaw_owlCoins_12 ?_
      refine cw_iconst 1 d_PLaw_owlCoins_13 rfl ?_
      exact ev_ireturn (st := []) rfl rfl d_PLaw_owlCoins_14 ⟨rfl, f0, h2.same hC, g1, g2, fun z => absurd z (by decide)⟩
theorem LW_countIn (d : Nat) {x1 : Int32} {o : String ⊕ Int32} {m : Mem} {r th : Int32} {mc1 ms1 : Nat} {f0 : Nat → RV} (hG : LM vc 0 535 μ G G) (hC : G 547 = some (true, 3, 1, f0)) (hR : RES [(xIAE, 1)] o r th) (hM : Mt g d m_P_countIn [.inr (0, off 12 0), .inl (.int x1)] (G, nx) mc1 ms1 (pRW vc 0 535 (thR rI o) m G nx)) : Mt g (d + 1) m_PLaw_countIn [.inr (0, 0), .inl (.int x1), .inr (0, 547)] (G, nx) mc1 ms1 (WR (r.toInt64) th m G nx) := by
  refine Mt.of9H [some (.inr (0, 0)), some (.inl (.int x1)), some (.inr (0, 547)), none] (by decide +kernel) (fun h => by cases h) rfl rfl rfl ?_
  refine ev_aload_n (k0 := 2) rfl d_PLaw_countIn_0 ?_
  refine cw_iconst 0 d_PLaw_countIn_1 rfl ?_
  refine ev_aload_n (k0 := 0) rfl d_PLaw_countIn_2 ?_
  refine ev_iload_n (k0 := 1) rfl d_PLaw_countIn_3 ?_
  refine Ev.room (mc := mc1 + 0) (ms := ms1 + 0) (ev_invVH (vs := [.inl (.int x1)]) (M := (G, nx)) (LM.obj (g := g) (nx := nx) hG v_12 rfl) lk_ProphecyShopLaw_79 hM rfl (Nat.le_of_ble_eq_true rfl) d_PLaw_countIn_4 ⟨fun v M1 h => ?_, fun E M1 h => ?_⟩) (Nat.le_refl _) (Nat.le_refl _)
  · obtain ⟨h1, h2, h3⟩ := h
    obtain ⟨G1, n1⟩ := M1
    replace h3 : n1 = nx := h3
    subst h3
    have h5 : G1 547 = some (true, 3, 1, f0) := (h2.2 547 (Or.inr (by decide))).trans hC
    rcases hR with ⟨rfl, rfl⟩ | ⟨q, -, rfl, -⟩
    · cases h1
      refine ev_i2l d_PLaw_countIn_7 ?_
      refine ev_last (M := (G1, n1)) h5 (i := 0) (show vp_in 0 1 from inb_vp (by decide)) d_PLaw_countIn_8 ?_
      refine ev_goto (tgt := 15) (by decide) d_PLaw_countIn_9 ?_
      refine cw_iconst 0 d_PLaw_countIn_15 rfl ?_
      exact ev_ireturn (st := []) rfl rfl d_PLaw_countIn_16 ⟨rfl, _, h2.out okC (by omega), Nat.le_refl _, Nat.le_add_right _ _, fun _ => updF_0⟩
    · cases h1
  · obtain ⟨h1, h2, h3⟩ := h
    obtain ⟨G1, n1⟩ := M1
    replace h3 : n1 = nx := h3
    subst h3
    rcases hR with ⟨rfl, rfl⟩ | ⟨q, hq, rfl, rfl⟩
    · cases h1
    · cases h1
      simp only [List.mem_cons, List.not_mem_nil, or_false] at hq
      subst hq
      refine ⟨12, ct_PLaw_countIn_0, fun q9 nx9 g1 g2 => ?_⟩
      refine ev_astoreR_n (k0 := 3) rfl (Nat.le_of_ble_eq_true rfl) d_PLaw_countIn_12 ?_
      refine cw_iconst 1 d_PLaw_countIn_13 rfl ?_
      exact ev_ireturn (st := []) rfl rfl d_PLaw_countIn_14 ⟨rfl, f0, h2.same hC, g1, g2, fun z => absurd z (by decide)⟩
theorem LW_daysUntilDecided (d : Nat) {x1 : Int32} {o : String ⊕ Int32} {m : Mem} {r th : Int32} {mc1 ms1 : Nat} {f0 : Nat → RV} (hG : LM vc 0 535 μ G G) (hC : G 547 = some (true, 3, 1, f0)) (hR : RES [(xIOB, 1)] o r th) (hM : Mt g d m_P_daysUntilDecided [.inr (0, off 12 0), .inl (.int x1)] (G, nx) mc1 ms1 (pRW vc 0 535 (thR rI o) m G nx)) : Mt g (d + 1) m_PLaw_daysUntilDecided [.inr (0, 0), .inl (.int x1), .inr (0, 547)] (G, nx) mc1 ms1 (WR (r.toInt64) th m G nx) := by
  refine Mt.of9H [some (.inr (0, 0)), some (.inl (.int x1)), some (.inr (0, 547)), none] (by decide +kernel) (fun h => by cases h) rfl rfl rfl ?_
  refine ev_aload_n (k0 := 2) rfl d_PLaw_daysUntilDecided_0 ?_
  refine cw_iconst 0 d_PLaw_daysUntilDecided_1 rfl ?_
  refine ev_aload_n (k0 := 0) rfl d_PLaw_daysUntilDecided_2 ?_
  refine ev_iload_n (k0 := 1) rfl d_PLaw_daysUntilDecided_3 ?_
  refine Ev.room (mc := mc1 + 0) (ms := ms1 + 0) (ev_invVH (vs := [.inl (.int x1)]) (M := (G, nx)) (LM.obj (g := g) (nx := nx) hG v_12 rfl) lk_ProphecyShopLaw_82 hM rfl (Nat.le_of_ble_eq_true rfl) d_PLaw_daysUntilDecided_4 ⟨fun v M1 h => ?_, fun E M1 h => ?_⟩) (Nat.le_refl _) (Nat.le_refl _)
  · obtain ⟨h1, h2, h3⟩ := h
    obtain ⟨G1, n1⟩ := M1
    replace h3 : n1 = nx := h3
    subst h3
    have h5 : G1 547 = some (true, 3, 1, f0) := (h2.2 547 (Or.inr (by decide))).trans hC
    rcases hR with ⟨rfl, rfl⟩ | ⟨q, -, rfl, -⟩
    · cases h1
      refine ev_i2l d_PLaw_daysUntilDecided_7 ?_
      refine ev_last (M := (G1, n1)) h5 (i := 0) (show vp_in 0 1 from inb_vp (by decide)) d_PLaw_daysUntilDecided_8 ?_
      refine ev_goto (tgt := 15) (by decide) d_PLaw_daysUntilDecided_9 ?_
      refine cw_iconst 0 d_PLaw_daysUntilDecided_15 rfl ?_
      exact ev_ireturn (st := []) rfl rfl d_PLaw_daysUntilDecided_16 ⟨rfl, _, h2.out okC (by omega), Nat.le_refl _, Nat.le_add_right _ _, fun _ => updF_0⟩
    · cases h1
  · obtain ⟨h1, h2, h3⟩ := h
    obtain ⟨G1, n1⟩ := M1
    replace h3 : n1 = nx := h3
    subst h3
    rcases hR with ⟨rfl, rfl⟩ | ⟨q, hq, rfl, rfl⟩
    · cases h1
    · cases h1
      simp only [List.mem_cons, List.not_mem_nil, or_false] at hq
      subst hq
      refine ⟨12, ct_PLaw_daysUntilDecided_0, fun q9 nx9 g1 g2 => ?_⟩
      refine ev_astoreR_n (k0 := 3) rfl (Nat.le_of_ble_eq_true rfl) d_PLaw_daysUntilDecided_12 ?_
      refine cw_iconst 1 d_PLaw_daysUntilDecided_13 rfl ?_
      exact ev_ireturn (st := []) rfl rfl d_PLaw_daysUntilDecided_14 ⟨rfl, f0, h2.same hC, g1, g2, fun z => absurd z (by decide)⟩
theorem LW_daysUntilRefunded (d : Nat) {x1 : Int32} {o : String ⊕ Int32} {m : Mem} {r th : Int32} {mc1 ms1 : Nat} {f0 : Nat → RV} (hG : LM vc 0 535 μ G G) (hC : G 547 = some (true, 3, 1, f0)) (hR : RES [(xIOB, 1)] o r th) (hM : Mt g d m_P_daysUntilRefunded [.inr (0, off 12 0), .inl (.int x1)] (G, nx) mc1 ms1 (pRW vc 0 535 (thR rI o) m G nx)) : Mt g (d + 1) m_PLaw_daysUntilRefunded [.inr (0, 0), .inl (.int x1), .inr (0, 547)] (G, nx) mc1 ms1 (WR (r.toInt64) th m G nx) := by
  refine Mt.of9H [some (.inr (0, 0)), some (.inl (.int x1)), some (.inr (0, 547)), none] (by decide +kernel) (fun h => by cases h) rfl rfl rfl ?_
  refine ev_aload_n (k0 := 2) rfl d_PLaw_daysUntilRefunded_0 ?_
  refine cw_iconst 0 d_PLaw_daysUntilRefunded_1 rfl ?_
  refine ev_aload_n (k0 := 0) rfl d_PLaw_daysUntilRefunded_2 ?_
  refine ev_iload_n (k0 := 1) rfl d_PLaw_daysUntilRefunded_3 ?_
  refine Ev.room (mc := mc1 + 0) (ms := ms1 + 0) (ev_invVH (vs := [.inl (.int x1)]) (M := (G, nx)) (LM.obj (g := g) (nx := nx) hG v_12 rfl) lk_ProphecyShopLaw_85 hM rfl (Nat.le_of_ble_eq_true rfl) d_PLaw_daysUntilRefunded_4 ⟨fun v M1 h => ?_, fun E M1 h => ?_⟩) (Nat.le_refl _) (Nat.le_refl _)
  · obtain ⟨h1, h2, h3⟩ := h
    obtain ⟨G1, n1⟩ := M1
    replace h3 : n1 = nx := h3
    subst h3
    have h5 : G1 547 = some (true, 3, 1, f0) := (h2.2 547 (Or.inr (by decide))).trans hC
    rcases hR with ⟨rfl, rfl⟩ | ⟨q, -, rfl, -⟩
    · cases h1
      refine ev_i2l d_PLaw_daysUntilRefunded_7 ?_
      refine ev_last (M := (G1, n1)) h5 (i := 0) (show vp_in 0 1 from inb_vp (by decide)) d_PLaw_daysUntilRefunded_8 ?_
      refine ev_goto (tgt := 15) (by decide) d_PLaw_daysUntilRefunded_9 ?_
      refine cw_iconst 0 d_PLaw_daysUntilRefunded_15 rfl ?_
      exact ev_ireturn (st := []) rfl rfl d_PLaw_daysUntilRefunded_16 ⟨rfl, _, h2.out okC (by omega), Nat.le_refl _, Nat.le_add_right _ _, fun _ => updF_0⟩
    · cases h1
  · obtain ⟨h1, h2, h3⟩ := h
    obtain ⟨G1, n1⟩ := M1
    replace h3 : n1 = nx := h3
    subst h3
    rcases hR with ⟨rfl, rfl⟩ | ⟨q, hq, rfl, rfl⟩
    · cases h1
    · cases h1
      simp only [List.mem_cons, List.not_mem_nil, or_false] at hq
      subst hq
      refine ⟨12, ct_PLaw_daysUntilRefunded_0, fun q9 nx9 g1 g2 => ?_⟩
      refine ev_astoreR_n (k0 := 3) rfl (Nat.le_of_ble_eq_true rfl) d_PLaw_daysUntilRefunded_12 ?_
      refine cw_iconst 1 d_PLaw_daysUntilRefunded_13 rfl ?_
      exact ev_ireturn (st := []) rfl rfl d_PLaw_daysUntilRefunded_14 ⟨rfl, f0, h2.same hC, g1, g2, fun z => absurd z (by decide)⟩
theorem LW_cashAfter (d : Nat) {x1 : Int32} {o : String ⊕ Int32} {m : Mem} {r th : Int32} {mc1 ms1 : Nat} {f0 : Nat → RV} (hG : LM vc 0 535 μ G G) (hC : G 547 = some (true, 3, 1, f0)) (hR : RES [(xIAE, 1)] o r th) (hM : Mt g d m_P_cashAfter [.inr (0, off 12 0), .inl (.int x1)] (G, nx) mc1 ms1 (pRW vc 0 535 (thR rI o) m G nx)) : Mt g (d + 1) m_PLaw_cashAfter [.inr (0, 0), .inl (.int x1), .inr (0, 547)] (G, nx) mc1 ms1 (WR (r.toInt64) th m G nx) := by
  refine Mt.of9H [some (.inr (0, 0)), some (.inl (.int x1)), some (.inr (0, 547)), none] (by decide +kernel) (fun h => by cases h) rfl rfl rfl ?_
  refine ev_aload_n (k0 := 2) rfl d_PLaw_cashAfter_0 ?_
  refine cw_iconst 0 d_PLaw_cashAfter_1 rfl ?_
  refine ev_aload_n (k0 := 0) rfl d_PLaw_cashAfter_2 ?_
  refine ev_iload_n (k0 := 1) rfl d_PLaw_cashAfter_3 ?_
  refine Ev.room (mc := mc1 + 0) (ms := ms1 + 0) (ev_invVH (vs := [.inl (.int x1)]) (M := (G, nx)) (LM.obj (g := g) (nx := nx) hG v_12 rfl) lk_ProphecyShopLaw_88 hM rfl (Nat.le_of_ble_eq_true rfl) d_PLaw_cashAfter_4 ⟨fun v M1 h => ?_, fun E M1 h => ?_⟩) (Nat.le_refl _) (Nat.le_refl _)
  · obtain ⟨h1, h2, h3⟩ := h
    obtain ⟨G1, n1⟩ := M1
    replace h3 : n1 = nx := h3
    subst h3
    have h5 : G1 547 = some (true, 3, 1, f0) := (h2.2 547 (Or.inr (by decide))).trans hC
    rcases hR with ⟨rfl, rfl⟩ | ⟨q, -, rfl, -⟩
    · cases h1
      refine ev_i2l d_PLaw_cashAfter_7 ?_
      refine ev_last (M := (G1, n1)) h5 (i := 0) (show vp_in 0 1 from inb_vp (by decide)) d_PLaw_cashAfter_8 ?_
      refine ev_goto (tgt := 15) (by decide) d_PLaw_cashAfter_9 ?_
      refine cw_iconst 0 d_PLaw_cashAfter_15 rfl ?_
      exact ev_ireturn (st := []) rfl rfl d_PLaw_cashAfter_16 ⟨rfl, _, h2.out okC (by omega), Nat.le_refl _, Nat.le_add_right _ _, fun _ => updF_0⟩
    · cases h1
  · obtain ⟨h1, h2, h3⟩ := h
    obtain ⟨G1, n1⟩ := M1
    replace h3 : n1 = nx := h3
    subst h3
    rcases hR with ⟨rfl, rfl⟩ | ⟨q, hq, rfl, rfl⟩
    · cases h1
    · cases h1
      simp only [List.mem_cons, List.not_mem_nil, or_false] at hq
      subst hq
      refine ⟨12, ct_PLaw_cashAfter_0, fun q9 nx9 g1 g2 => ?_⟩
      refine ev_astoreR_n (k0 := 3) rfl (Nat.le_of_ble_eq_true rfl) d_PLaw_cashAfter_12 ?_
      refine cw_iconst 1 d_PLaw_cashAfter_13 rfl ?_
      exact ev_ireturn (st := []) rfl rfl d_PLaw_cashAfter_14 ⟨rfl, f0, h2.same hC, g1, g2, fun z => absurd z (by decide)⟩
theorem LW_sellPlain (d : Nat) {x1 x2 x3 x4 x5 x6 : Int32} {o : String ⊕ Int32} {m : Mem} {r th : Int32} {mc1 ms1 : Nat} {f0 : Nat → RV} (hG : LM vc 0 535 μ G G) (hC : G 547 = some (true, 3, 1, f0)) (hR : RES [(xIOB, 1), (xIAE, 2), (xISE, 3)] o r th) (hM : Mt g d m_P_sellPlain [.inr (0, off 12 0), .inl (.int x1), .inl (.int x2), .inl (.int x3), .inl (.int x4), .inl (.int x5), .inl (.int x6)] (G, nx) mc1 ms1 (pRW vc 0 535 (thR rI o) m G nx)) : Mt g (d + 1) m_PLaw_sellPlain [.inr (0, 0), .inl (.int x1), .inl (.int x2), .inl (.int x3), .inl (.int x4), .inl (.int x5), .inl (.int x6), .inr (0, 547)] (G, nx) mc1 ms1 (WR (r.toInt64) th m G nx) := by
  refine Mt.of9H [some (.inr (0, 0)), some (.inl (.int x1)), some (.inl (.int x2)), some (.inl (.int x3)), some (.inl (.int x4)), some (.inl (.int x5)), some (.inl (.int x6)), some (.inr (0, 547)), none] (by decide +kernel) (fun h => by cases h) rfl rfl rfl ?_
  refine ev_aload (i := 7) rfl d_PLaw_sellPlain_0 ?_
  refine cw_iconst 0 d_PLaw_sellPlain_2 rfl ?_
  refine ev_aload_n (k0 := 0) rfl d_PLaw_sellPlain_3 ?_
  refine ev_iload_n (k0 := 1) rfl d_PLaw_sellPlain_4 ?_
  refine ev_iload_n (k0 := 2) rfl d_PLaw_sellPlain_5 ?_
  refine ev_iload_n (k0 := 3) rfl d_PLaw_sellPlain_6 ?_
  refine ev_iload (i := 4) rfl d_PLaw_sellPlain_7 ?_
  refine ev_iload (i := 5) rfl d_PLaw_sellPlain_9 ?_
  refine ev_iload (i := 6) rfl d_PLaw_sellPlain_11 ?_
  refine Ev.room (mc := mc1 + 0) (ms := ms1 + 0) (ev_invVH (vs := [.inl (.int x1), .inl (.int x2), .inl (.int x3), .inl (.int x4), .inl (.int x5), .inl (.int x6)]) (M := (G, nx)) (LM.obj (g := g) (nx := nx) hG v_12 rfl) lk_ProphecyShopLaw_91 hM rfl (Nat.le_of_ble_eq_true rfl) d_PLaw_sellPlain_13 ⟨fun v M1 h => ?_, fun E M1 h => ?_⟩) (Nat.le_refl _) (Nat.le_refl _)
  · obtain ⟨h1, h2, h3⟩ := h
    obtain ⟨G1, n1⟩ := M1
    replace h3 : n1 = nx := h3
    subst h3
    have h5 : G1 547 = some (true, 3, 1, f0) := (h2.2 547 (Or.inr (by decide))).trans hC
    rcases hR with ⟨rfl, rfl⟩ | ⟨q, -, rfl, -⟩
    · cases h1
      refine ev_i2l d_PLaw_sellPlain_16 ?_
      refine ev_last (M := (G1, n1)) h5 (i := 0) (show vp_in 0 1 from inb_vp (by decide)) d_PLaw_sellPlain_17 ?_
      refine ev_goto (tgt := 33) (by decide) d_PLaw_sellPlain_18 ?_
      refine cw_iconst 0 d_PLaw_sellPlain_33 rfl ?_
      exact ev_ireturn (st := []) rfl rfl d_PLaw_sellPlain_34 ⟨rfl, _, h2.out okC (by omega), Nat.le_refl _, Nat.le_add_right _ _, fun _ => updF_0⟩
    · cases h1
  · obtain ⟨h1, h2, h3⟩ := h
    obtain ⟨G1, n1⟩ := M1
    replace h3 : n1 = nx := h3
    subst h3
    rcases hR with ⟨rfl, rfl⟩ | ⟨q, hq, rfl, rfl⟩
    · cases h1
    · cases h1
      simp only [List.mem_cons, List.not_mem_nil, or_false] at hq
      rcases hq with rfl | rfl | rfl
      · refine ⟨21, ct_PLaw_sellPlain_0, fun q9 nx9 g1 g2 => ?_⟩
        refine ev_astoreR (i := 8) rfl (Nat.le_of_ble_eq_true rfl) d_PLaw_sellPlain_21 ?_
        refine cw_iconst 1 d_PLaw_sellPlain_23 rfl ?_
        exact ev_ireturn (st := []) rfl rfl d_PLaw_sellPlain_24 ⟨rfl, f0, h2.same hC, g1, g2, fun z => absurd z (by decide)⟩
      · refine ⟨25, ct_PLaw_sellPlain_1, fun q9 nx9 g1 g2 => ?_⟩
        refine ev_astoreR (i := 8) rfl (Nat.le_of_ble_eq_true rfl) d_PLaw_sellPlain_25 ?_
        refine cw_iconst 2 d_PLaw_sellPlain_27 rfl ?_
        exact ev_ireturn (st := []) rfl rfl d_PLaw_sellPlain_28 ⟨rfl, f0, h2.same hC, g1, g2, fun z => absurd z (by decide)⟩
      · refine ⟨29, ct_PLaw_sellPlain_2, fun q9 nx9 g1 g2 => ?_⟩
        refine ev_astoreR (i := 8) rfl (Nat.le_of_ble_eq_true rfl) d_PLaw_sellPlain_29 ?_
        refine cw_iconst 3 d_PLaw_sellPlain_31 rfl ?_
        exact ev_ireturn (st := []) rfl rfl d_PLaw_sellPlain_32 ⟨rfl, f0, h2.same hC, g1, g2, fun z => absurd z (by decide)⟩
theorem LW_sellVague (d : Nat) {x1 x2 x3 x4 x5 : Int32} {o : String ⊕ Int32} {m : Mem} {r th : Int32} {mc1 ms1 : Nat} {f0 : Nat → RV} (hG : LM vc 0 535 μ G G) (hC : G 547 = some (true, 3, 1, f0)) (hR : RES [(xIOB, 1), (xIAE, 2), (xISE, 3)] o r th) (hM : Mt g d m_P_sellVague [.inr (0, off 12 0), .inl (.int x1), .inl (.int x2), .inl (.int x3), .inl (.int x4), .inl (.int x5)] (G, nx) mc1 ms1 (pRW vc 0 535 (thR rI o) m G nx)) : Mt g (d + 1) m_PLaw_sellVague [.inr (0, 0), .inl (.int x1), .inl (.int x2), .inl (.int x3), .inl (.int x4), .inl (.int x5), .inr (0, 547)] (G, nx) mc1 ms1 (WR (r.toInt64) th m G nx) := by
  refine Mt.of9H [some (.inr (0, 0)), some (.inl (.int x1)), some (.inl (.int x2)), some (.inl (.int x3)), some (.inl (.int x4)), some (.inl (.int x5)), some (.inr (0, 547)), none] (by decide +kernel) (fun h => by cases h) rfl rfl rfl ?_
  refine ev_aload (i := 6) rfl d_PLaw_sellVague_0 ?_
  refine cw_iconst 0 d_PLaw_sellVague_2 rfl ?_
  refine ev_aload_n (k0 := 0) rfl d_PLaw_sellVague_3 ?_
  refine ev_iload_n (k0 := 1) rfl d_PLaw_sellVague_4 ?_
  refine ev_iload_n (k0 := 2) rfl d_PLaw_sellVague_5 ?_
  refine ev_iload_n (k0 := 3) rfl d_PLaw_sellVague_6 ?_
  refine ev_iload (i := 4) rfl d_PLaw_sellVague_7 ?_
  refine ev_iload (i := 5) rfl d_PLaw_sellVague_9 ?_
  refine Ev.room (mc := mc1 + 0) (ms := ms1 + 0) (ev_invVH (vs := [.inl (.int x1), .inl (.int x2), .inl (.int x3), .inl (.int x4), .inl (.int x5)]) (M := (G, nx)) (LM.obj (g := g) (nx := nx) hG v_12 rfl) lk_ProphecyShopLaw_95 hM rfl (Nat.le_of_ble_eq_true rfl) d_PLaw_sellVague_11 ⟨fun v M1 h => ?_, fun E M1 h => ?_⟩) (Nat.le_refl _) (Nat.le_refl _)
  · obtain ⟨h1, h2, h3⟩ := h
    obtain ⟨G1, n1⟩ := M1
    replace h3 : n1 = nx := h3
    subst h3
    have h5 : G1 547 = some (true, 3, 1, f0) := (h2.2 547 (Or.inr (by decide))).trans hC
    rcases hR with ⟨rfl, rfl⟩ | ⟨q, -, rfl, -⟩
    · cases h1
      refine ev_i2l d_PLaw_sellVague_14 ?_
      refine ev_last (M := (G1, n1)) h5 (i := 0) (show vp_in 0 1 from inb_vp (by decide)) d_PLaw_sellVague_15 ?_
      refine ev_goto (tgt := 31) (by decide) d_PLaw_sellVague_16 ?_
      refine cw_iconst 0 d_PLaw_sellVague_31 rfl ?_
      exact ev_ireturn (st := []) rfl rfl d_PLaw_sellVague_32 ⟨rfl, _, h2.out okC (by omega), Nat.le_refl _, Nat.le_add_right _ _, fun _ => updF_0⟩
    · cases h1
  · obtain ⟨h1, h2, h3⟩ := h
    obtain ⟨G1, n1⟩ := M1
    replace h3 : n1 = nx := h3
    subst h3
    rcases hR with ⟨rfl, rfl⟩ | ⟨q, hq, rfl, rfl⟩
    · cases h1
    · cases h1
      simp only [List.mem_cons, List.not_mem_nil, or_false] at hq
      rcases hq with rfl | rfl | rfl
      · refine ⟨19, ct_PLaw_sellVague_0, fun q9 nx9 g1 g2 => ?_⟩
        refine ev_astoreR (i := 7) rfl (Nat.le_of_ble_eq_true rfl) d_PLaw_sellVague_19 ?_
        refine cw_iconst 1 d_PLaw_sellVague_21 rfl ?_
        exact ev_ireturn (st := []) rfl rfl d_PLaw_sellVague_22 ⟨rfl, f0, h2.same hC, g1, g2, fun z => absurd z (by decide)⟩
      · refine ⟨23, ct_PLaw_sellVague_1, fun q9 nx9 g1 g2 => ?_⟩
        refine ev_astoreR (i := 7) rfl (Nat.le_of_ble_eq_true rfl) d_PLaw_sellVague_23 ?_
        refine cw_iconst 2 d_PLaw_sellVague_25 rfl ?_
        exact ev_ireturn (st := []) rfl rfl d_PLaw_sellVague_26 ⟨rfl, f0, h2.same hC, g1, g2, fun z => absurd z (by decide)⟩
      · refine ⟨27, ct_PLaw_sellVague_2, fun q9 nx9 g1 g2 => ?_⟩
        refine ev_astoreR (i := 7) rfl (Nat.le_of_ble_eq_true rfl) d_PLaw_sellVague_27 ?_
        refine cw_iconst 3 d_PLaw_sellVague_29 rfl ?_
        exact ev_ireturn (st := []) rfl rfl d_PLaw_sellVague_30 ⟨rfl, f0, h2.same hC, g1, g2, fun z => absurd z (by decide)⟩
theorem LW_sellDenial (d : Nat) {x1 x2 x3 x4 x5 x6 : Int32} {o : String ⊕ Int32} {m : Mem} {r th : Int32} {mc1 ms1 : Nat} {f0 : Nat → RV} (hG : LM vc 0 535 μ G G) (hC : G 547 = some (true, 3, 1, f0)) (hR : RES [(xIOB, 1), (xIAE, 2), (xISE, 3)] o r th) (hM : Mt g d m_P_sellDenial [.inr (0, off 12 0), .inl (.int x1), .inl (.int x2), .inl (.int x3), .inl (.int x4), .inl (.int x5), .inl (.int x6)] (G, nx) mc1 ms1 (pRW vc 0 535 (thR rI o) m G nx)) : Mt g (d + 1) m_PLaw_sellDenial [.inr (0, 0), .inl (.int x1), .inl (.int x2), .inl (.int x3), .inl (.int x4), .inl (.int x5), .inl (.int x6), .inr (0, 547)] (G, nx) mc1 ms1 (WR (r.toInt64) th m G nx) := by
  refine Mt.of9H [some (.inr (0, 0)), some (.inl (.int x1)), some (.inl (.int x2)), some (.inl (.int x3)), some (.inl (.int x4)), some (.inl (.int x5)), some (.inl (.int x6)), some (.inr (0, 547)), none] (by decide +kernel) (fun h => by cases h) rfl rfl rfl ?_
  refine ev_aload (i := 7) rfl d_PLaw_sellDenial_0 ?_
  refine cw_iconst 0 d_PLaw_sellDenial_2 rfl ?_
  refine ev_aload_n (k0 := 0) rfl d_PLaw_sellDenial_3 ?_
  refine ev_iload_n (k0 := 1) rfl d_PLaw_sellDenial_4 ?_
  refine ev_iload_n (k0 := 2) rfl d_PLaw_sellDenial_5 ?_
  refine ev_iload_n (k0 := 3) rfl d_PLaw_sellDenial_6 ?_
  refine ev_iload (i := 4) rfl d_PLaw_sellDenial_7 ?_
  refine ev_iload (i := 5) rfl d_PLaw_sellDenial_9 ?_
  refine ev_iload (i := 6) rfl d_PLaw_sellDenial_11 ?_
  refine Ev.room (mc := mc1 + 0) (ms := ms1 + 0) (ev_invVH (vs := [.inl (.int x1), .inl (.int x2), .inl (.int x3), .inl (.int x4), .inl (.int x5), .inl (.int x6)]) (M := (G, nx)) (LM.obj (g := g) (nx := nx) hG v_12 rfl) lk_ProphecyShopLaw_98 hM rfl (Nat.le_of_ble_eq_true rfl) d_PLaw_sellDenial_13 ⟨fun v M1 h => ?_, fun E M1 h => ?_⟩) (Nat.le_refl _) (Nat.le_refl _)
  · obtain ⟨h1, h2, h3⟩ := h
    obtain ⟨G1, n1⟩ := M1
    replace h3 : n1 = nx := h3
    subst h3
    have h5 : G1 547 = some (true, 3, 1, f0) := (h2.2 547 (Or.inr (by decide))).trans hC
    rcases hR with ⟨rfl, rfl⟩ | ⟨q, -, rfl, -⟩
    · cases h1
      refine ev_i2l d_PLaw_sellDenial_16 ?_
      refine ev_last (M := (G1, n1)) h5 (i := 0) (show vp_in 0 1 from inb_vp (by decide)) d_PLaw_sellDenial_17 ?_
      refine ev_goto (tgt := 33) (by decide) d_PLaw_sellDenial_18 ?_
      refine cw_iconst 0 d_PLaw_sellDenial_33 rfl ?_
      exact ev_ireturn (st := []) rfl rfl d_PLaw_sellDenial_34 ⟨rfl, _, h2.out okC (by omega), Nat.le_refl _, Nat.le_add_right _ _, fun _ => updF_0⟩
    · cases h1
  · obtain ⟨h1, h2, h3⟩ := h
    obtain ⟨G1, n1⟩ := M1
    replace h3 : n1 = nx := h3
    subst h3
    rcases hR with ⟨rfl, rfl⟩ | ⟨q, hq, rfl, rfl⟩
    · cases h1
    · cases h1
      simp only [List.mem_cons, List.not_mem_nil, or_false] at hq
      rcases hq with rfl | rfl | rfl
      · refine ⟨21, ct_PLaw_sellDenial_0, fun q9 nx9 g1 g2 => ?_⟩
        refine ev_astoreR (i := 8) rfl (Nat.le_of_ble_eq_true rfl) d_PLaw_sellDenial_21 ?_
        refine cw_iconst 1 d_PLaw_sellDenial_23 rfl ?_
        exact ev_ireturn (st := []) rfl rfl d_PLaw_sellDenial_24 ⟨rfl, f0, h2.same hC, g1, g2, fun z => absurd z (by decide)⟩
      · refine ⟨25, ct_PLaw_sellDenial_1, fun q9 nx9 g1 g2 => ?_⟩
        refine ev_astoreR (i := 8) rfl (Nat.le_of_ble_eq_true rfl) d_PLaw_sellDenial_25 ?_
        refine cw_iconst 2 d_PLaw_sellDenial_27 rfl ?_
        exact ev_ireturn (st := []) rfl rfl d_PLaw_sellDenial_28 ⟨rfl, f0, h2.same hC, g1, g2, fun z => absurd z (by decide)⟩
      · refine ⟨29, ct_PLaw_sellDenial_2, fun q9 nx9 g1 g2 => ?_⟩
        refine ev_astoreR (i := 8) rfl (Nat.le_of_ble_eq_true rfl) d_PLaw_sellDenial_29 ?_
        refine cw_iconst 3 d_PLaw_sellDenial_31 rfl ?_
        exact ev_ireturn (st := []) rfl rfl d_PLaw_sellDenial_32 ⟨rfl, f0, h2.same hC, g1, g2, fun z => absurd z (by decide)⟩
theorem LW_happen (d : Nat) {x1 x2 : Int32} {o : String ⊕ Int32} {m : Mem} {r th : Int32} {mc1 ms1 : Nat} {f0 : Nat → RV} (hG : LM vc 0 535 μ G G) (hC : G 547 = some (true, 3, 1, f0)) (hR : RES [(xIOB, 1), (xISE, 2)] o r th) (hM : Mt g d m_P_happen [.inr (0, off 12 0), .inl (.int x1), .inl (.int x2)] (G, nx) mc1 ms1 (pRW vc 0 535 (thR rI o) m G nx)) : Mt g (d + 1) m_PLaw_happen [.inr (0, 0), .inl (.int x1), .inl (.int x2), .inr (0, 547)] (G, nx) mc1 ms1 (WR (r.toInt64) th m G nx) := by
  refine Mt.of9H [some (.inr (0, 0)), some (.inl (.int x1)), some (.inl (.int x2)), some (.inr (0, 547)), none] (by decide +kernel) (fun h => by cases h) rfl rfl rfl ?_
  refine ev_aload_n (k0 := 3) rfl d_PLaw_happen_0 ?_
  refine cw_iconst 0 d_PLaw_happen_1 rfl ?_
  refine ev_aload_n (k0 := 0) rfl d_PLaw_happen_2 ?_
  refine ev_iload_n (k0 := 1) rfl d_PLaw_happen_3 ?_
  refine ev_iload_n (k0 := 2) rfl d_PLaw_happen_4 ?_
  refine Ev.room (mc := mc1 + 0) (ms := ms1 + 0) (ev_invVH (vs := [.inl (.int x1), .inl (.int x2)]) (M := (G, nx)) (LM.obj (g := g) (nx := nx) hG v_12 rfl) lk_ProphecyShopLaw_101 hM rfl (Nat.le_of_ble_eq_true rfl) d_PLaw_happen_5 ⟨fun v M1 h => ?_, fun E M1 h => ?_⟩) (Nat.le_refl _) (Nat.le_refl _)
  · obtain ⟨h1, h2, h3⟩ := h
    obtain ⟨G1, n1⟩ := M1
    replace h3 : n1 = nx := h3
    subst h3
    have h5 : G1 547 = some (true, 3, 1, f0) := (h2.2 547 (Or.inr (by decide))).trans hC
    rcases hR with ⟨rfl, rfl⟩ | ⟨q, -, rfl, -⟩
    · cases h1
      refine ev_i2l d_PLaw_happen_8 ?_
      refine ev_last (M := (G1, n1)) h5 (i := 0) (show vp_in 0 1 from inb_vp (by decide)) d_PLaw_happen_9 ?_
      refine ev_goto (tgt := 21) (by decide) d_PLaw_happen_10 ?_
      refine cw_iconst 0 d_PLaw_happen_21 rfl ?_
      exact ev_ireturn (st := []) rfl rfl d_PLaw_happen_22 ⟨rfl, _, h2.out okC (by omega), Nat.le_refl _, Nat.le_add_right _ _, fun _ => updF_0⟩
    · cases h1
  · obtain ⟨h1, h2, h3⟩ := h
    obtain ⟨G1, n1⟩ := M1
    replace h3 : n1 = nx := h3
    subst h3
    rcases hR with ⟨rfl, rfl⟩ | ⟨q, hq, rfl, rfl⟩
    · cases h1
    · cases h1
      simp only [List.mem_cons, List.not_mem_nil, or_false] at hq
      rcases hq with rfl | rfl
      · refine ⟨13, ct_PLaw_happen_0, fun q9 nx9 g1 g2 => ?_⟩
        refine ev_astoreR (i := 4) rfl (Nat.le_of_ble_eq_true rfl) d_PLaw_happen_13 ?_
        refine cw_iconst 1 d_PLaw_happen_15 rfl ?_
        exact ev_ireturn (st := []) rfl rfl d_PLaw_happen_16 ⟨rfl, f0, h2.same hC, g1, g2, fun z => absurd z (by decide)⟩
      · refine ⟨17, ct_PLaw_happen_1, fun q9 nx9 g1 g2 => ?_⟩
        refine ev_astoreR (i := 4) rfl (Nat.le_of_ble_eq_true rfl) d_PLaw_happen_17 ?_
        refine cw_iconst 2 d_PLaw_happen_19 rfl ?_
        exact ev_ireturn (st := []) rfl rfl d_PLaw_happen_20 ⟨rfl, f0, h2.same hC, g1, g2, fun z => absurd z (by decide)⟩
theorem LW_ask (d : Nat) {x1 : Int32} {o : String ⊕ Int32} {m : Mem} {r th : Int32} {mc1 ms1 : Nat} {f0 : Nat → RV} (hG : LM vc 0 535 μ G G) (hC : G 547 = some (true, 3, 1, f0)) (hR : RES [(xIOB, 1), (xISE, 2)] o r th) (hM : Mt g d m_P_ask [.inr (0, off 12 0), .inl (.int x1)] (G, nx) mc1 ms1 (pRW vc 0 535 (thR rI o) m G nx)) : Mt g (d + 1) m_PLaw_ask [.inr (0, 0), .inl (.int x1), .inr (0, 547)] (G, nx) mc1 ms1 (WR (r.toInt64) th m G nx) := by
  refine Mt.of9H [some (.inr (0, 0)), some (.inl (.int x1)), some (.inr (0, 547)), none] (by decide +kernel) (fun h => by cases h) rfl rfl rfl ?_
  refine ev_aload_n (k0 := 2) rfl d_PLaw_ask_0 ?_
  refine cw_iconst 0 d_PLaw_ask_1 rfl ?_
  refine ev_aload_n (k0 := 0) rfl d_PLaw_ask_2 ?_
  refine ev_iload_n (k0 := 1) rfl d_PLaw_ask_3 ?_
  refine Ev.room (mc := mc1 + 0) (ms := ms1 + 0) (ev_invVH (vs := [.inl (.int x1)]) (M := (G, nx)) (LM.obj (g := g) (nx := nx) hG v_12 rfl) lk_ProphecyShopLaw_104 hM rfl (Nat.le_of_ble_eq_true rfl) d_PLaw_ask_4 ⟨fun v M1 h => ?_, fun E M1 h => ?_⟩) (Nat.le_refl _) (Nat.le_refl _)
  · obtain ⟨h1, h2, h3⟩ := h
    obtain ⟨G1, n1⟩ := M1
    replace h3 : n1 = nx := h3
    subst h3
    have h5 : G1 547 = some (true, 3, 1, f0) := (h2.2 547 (Or.inr (by decide))).trans hC
    rcases hR with ⟨rfl, rfl⟩ | ⟨q, -, rfl, -⟩
    · cases h1
      refine ev_i2l d_PLaw_ask_7 ?_
      refine ev_last (M := (G1, n1)) h5 (i := 0) (show vp_in 0 1 from inb_vp (by decide)) d_PLaw_ask_8 ?_
      refine ev_goto (tgt := 18) (by decide) d_PLaw_ask_9 ?_
      refine cw_iconst 0 d_PLaw_ask_18 rfl ?_
      exact ev_ireturn (st := []) rfl rfl d_PLaw_ask_19 ⟨rfl, _, h2.out okC (by omega), Nat.le_refl _, Nat.le_add_right _ _, fun _ => updF_0⟩
    · cases h1
  · obtain ⟨h1, h2, h3⟩ := h
    obtain ⟨G1, n1⟩ := M1
    replace h3 : n1 = nx := h3
    subst h3
    rcases hR with ⟨rfl, rfl⟩ | ⟨q, hq, rfl, rfl⟩
    · cases h1
    · cases h1
      simp only [List.mem_cons, List.not_mem_nil, or_false] at hq
      rcases hq with rfl | rfl
      · refine ⟨12, ct_PLaw_ask_0, fun q9 nx9 g1 g2 => ?_⟩
        refine ev_astoreR_n (k0 := 3) rfl (Nat.le_of_ble_eq_true rfl) d_PLaw_ask_12 ?_
        refine cw_iconst 1 d_PLaw_ask_13 rfl ?_
        exact ev_ireturn (st := []) rfl rfl d_PLaw_ask_14 ⟨rfl, f0, h2.same hC, g1, g2, fun z => absurd z (by decide)⟩
      · refine ⟨15, ct_PLaw_ask_1, fun q9 nx9 g1 g2 => ?_⟩
        refine ev_astoreR_n (k0 := 3) rfl (Nat.le_of_ble_eq_true rfl) d_PLaw_ask_15 ?_
        refine cw_iconst 2 d_PLaw_ask_16 rfl ?_
        exact ev_ireturn (st := []) rfl rfl d_PLaw_ask_17 ⟨rfl, f0, h2.same hC, g1, g2, fun z => absurd z (by decide)⟩
theorem LW_advance (d : Nat) {x1 : Int32} {o : String ⊕ Int32} {m : Mem} {r th : Int32} {mc1 ms1 : Nat} {f0 : Nat → RV} (hG : LM vc 0 535 μ G G) (hC : G 547 = some (true, 3, 1, f0)) (hR : RES [(xIAE, 1), (xISE, 2)] o r th) (hM : Mt g d m_P_advance [.inr (0, off 12 0), .inl (.int x1)] (G, nx) mc1 ms1 (pRW vc 0 535 (thR rI o) m G nx)) : Mt g (d + 1) m_PLaw_advance [.inr (0, 0), .inl (.int x1), .inr (0, 547)] (G, nx) mc1 ms1 (WR (r.toInt64) th m G nx) := by
  refine Mt.of9H [some (.inr (0, 0)), some (.inl (.int x1)), some (.inr (0, 547)), none] (by decide +kernel) (fun h => by cases h) rfl rfl rfl ?_
  refine ev_aload_n (k0 := 2) rfl d_PLaw_advance_0 ?_
  refine cw_iconst 0 d_PLaw_advance_1 rfl ?_
  refine ev_aload_n (k0 := 0) rfl d_PLaw_advance_2 ?_
  refine ev_iload_n (k0 := 1) rfl d_PLaw_advance_3 ?_
  refine Ev.room (mc := mc1 + 0) (ms := ms1 + 0) (ev_invVH (vs := [.inl (.int x1)]) (M := (G, nx)) (LM.obj (g := g) (nx := nx) hG v_12 rfl) lk_ProphecyShopLaw_107 hM rfl (Nat.le_of_ble_eq_true rfl) d_PLaw_advance_4 ⟨fun v M1 h => ?_, fun E M1 h => ?_⟩) (Nat.le_refl _) (Nat.le_refl _)
  · obtain ⟨h1, h2, h3⟩ := h
    obtain ⟨G1, n1⟩ := M1
    replace h3 : n1 = nx := h3
    subst h3
    have h5 : G1 547 = some (true, 3, 1, f0) := (h2.2 547 (Or.inr (by decide))).trans hC
    rcases hR with ⟨rfl, rfl⟩ | ⟨q, -, rfl, -⟩
    · cases h1
      refine ev_i2l d_PLaw_advance_7 ?_
      refine ev_last (M := (G1, n1)) h5 (i := 0) (show vp_in 0 1 from inb_vp (by decide)) d_PLaw_advance_8 ?_
      refine ev_goto (tgt := 18) (by decide) d_PLaw_advance_9 ?_
      refine cw_iconst 0 d_PLaw_advance_18 rfl ?_
      exact ev_ireturn (st := []) rfl rfl d_PLaw_advance_19 ⟨rfl, _, h2.out okC (by omega), Nat.le_refl _, Nat.le_add_right _ _, fun _ => updF_0⟩
    · cases h1
  · obtain ⟨h1, h2, h3⟩ := h
    obtain ⟨G1, n1⟩ := M1
    replace h3 : n1 = nx := h3
    subst h3
    rcases hR with ⟨rfl, rfl⟩ | ⟨q, hq, rfl, rfl⟩
    · cases h1
    · cases h1
      simp only [List.mem_cons, List.not_mem_nil, or_false] at hq
      rcases hq with rfl | rfl
      · refine ⟨12, ct_PLaw_advance_0, fun q9 nx9 g1 g2 => ?_⟩
        refine ev_astoreR_n (k0 := 3) rfl (Nat.le_of_ble_eq_true rfl) d_PLaw_advance_12 ?_
        refine cw_iconst 1 d_PLaw_advance_13 rfl ?_
        exact ev_ireturn (st := []) rfl rfl d_PLaw_advance_14 ⟨rfl, f0, h2.same hC, g1, g2, fun z => absurd z (by decide)⟩
      · refine ⟨15, ct_PLaw_advance_1, fun q9 nx9 g1 g2 => ?_⟩
        refine ev_astoreR_n (k0 := 3) rfl (Nat.le_of_ble_eq_true rfl) d_PLaw_advance_15 ?_
        refine cw_iconst 2 d_PLaw_advance_16 rfl ?_
        exact ev_ireturn (st := []) rfl rfl d_PLaw_advance_17 ⟨rfl, f0, h2.same hC, g1, g2, fun z => absurd z (by decide)⟩
theorem LW_writeProphecy (d : Nat) {x1 : Int32} {o : String ⊕ Int32} {m : Mem} {r th : Int32} {mc1 ms1 : Nat} {f0 : Nat → RV} (hG : LM vc 0 535 μ G G) (hC : G 547 = some (true, 3, 1, f0)) (hR : RES [(xIOB, 1)] o r th) (hM : Mt g d m_P_writeProphecy [.inr (0, off 12 0), .inl (.int x1)] (G, nx) mc1 ms1 (pRW vc 0 535 (thR rI o) m G nx)) : Mt g (d + 1) m_PLaw_writeProphecy [.inr (0, 0), .inl (.int x1), .inr (0, 547)] (G, nx) mc1 ms1 (WR (r.toInt64) th m G nx) := by
  refine Mt.of9H [some (.inr (0, 0)), some (.inl (.int x1)), some (.inr (0, 547)), none] (by decide +kernel) (fun h => by cases h) rfl rfl rfl ?_
  refine ev_aload_n (k0 := 2) rfl d_PLaw_writeProphecy_0 ?_
  refine cw_iconst 0 d_PLaw_writeProphecy_1 rfl ?_
  refine ev_aload_n (k0 := 0) rfl d_PLaw_writeProphecy_2 ?_
  refine ev_iload_n (k0 := 1) rfl d_PLaw_writeProphecy_3 ?_
  refine Ev.room (mc := mc1 + 0) (ms := ms1 + 0) (ev_invVH (vs := [.inl (.int x1)]) (M := (G, nx)) (LM.obj (g := g) (nx := nx) hG v_12 rfl) lk_ProphecyShopLaw_110 hM rfl (Nat.le_of_ble_eq_true rfl) d_PLaw_writeProphecy_4 ⟨fun v M1 h => ?_, fun E M1 h => ?_⟩) (Nat.le_refl _) (Nat.le_refl _)
  · obtain ⟨h1, h2, h3⟩ := h
    obtain ⟨G1, n1⟩ := M1
    replace h3 : n1 = nx := h3
    subst h3
    have h5 : G1 547 = some (true, 3, 1, f0) := (h2.2 547 (Or.inr (by decide))).trans hC
    rcases hR with ⟨rfl, rfl⟩ | ⟨q, -, rfl, -⟩
    · cases h1
      refine ev_i2l d_PLaw_writeProphecy_7 ?_
      refine ev_last (M := (G1, n1)) h5 (i := 0) (show vp_in 0 1 from inb_vp (by decide)) d_PLaw_writeProphecy_8 ?_
      refine ev_goto (tgt := 15) (by decide) d_PLaw_writeProphecy_9 ?_
      refine cw_iconst 0 d_PLaw_writeProphecy_15 rfl ?_
      exact ev_ireturn (st := []) rfl rfl d_PLaw_writeProphecy_16 ⟨rfl, _, h2.out okC (by omega), Nat.le_refl _, Nat.le_add_right _ _, fun _ => updF_0⟩
    · cases h1
  · obtain ⟨h1, h2, h3⟩ := h
    obtain ⟨G1, n1⟩ := M1
    replace h3 : n1 = nx := h3
    subst h3
    rcases hR with ⟨rfl, rfl⟩ | ⟨q, hq, rfl, rfl⟩
    · cases h1
    · cases h1
      simp only [List.mem_cons, List.not_mem_nil, or_false] at hq
      subst hq
      refine ⟨12, ct_PLaw_writeProphecy_0, fun q9 nx9 g1 g2 => ?_⟩
      refine ev_astoreR_n (k0 := 3) rfl (Nat.le_of_ble_eq_true rfl) d_PLaw_writeProphecy_12 ?_
      refine cw_iconst 1 d_PLaw_writeProphecy_13 rfl ?_
      exact ev_ireturn (st := []) rfl rfl d_PLaw_writeProphecy_14 ⟨rfl, f0, h2.same hC, g1, g2, fun z => absurd z (by decide)⟩
theorem LW_undo (d : Nat) {o : String ⊕ Int32} {m : Mem} {r th : Int32} {mc1 ms1 : Nat} {f0 : Nat → RV} (hG : LM vc 0 535 μ G G) (hC : G 547 = some (true, 3, 1, f0)) (hR : RES [(xISE, 1)] o r th) (hM : Mt g d m_P_undo [.inr (0, off 12 0)] (G, nx) mc1 ms1 (pRW vc 0 535 (thR rI o) m G nx)) : Mt g (d + 1) m_PLaw_undo [.inr (0, 0), .inr (0, 547)] (G, nx) mc1 ms1 (WR (r.toInt64) th m G nx) := by
  refine Mt.of9H [some (.inr (0, 0)), some (.inr (0, 547)), none] (by decide +kernel) (fun h => by cases h) rfl rfl rfl ?_
  refine ev_aload_n (k0 := 1) rfl d_PLaw_undo_0 ?_
  refine cw_iconst 0 d_PLaw_undo_1 rfl ?_
  refine ev_aload_n (k0 := 0) rfl d_PLaw_undo_2 ?_
  refine Ev.room (mc := mc1 + 0) (ms := ms1 + 0) (ev_invVH (vs := []) (M := (G, nx)) (LM.obj (g := g) (nx := nx) hG v_12 rfl) lk_ProphecyShopLaw_113 hM rfl (Nat.le_of_ble_eq_true rfl) d_PLaw_undo_3 ⟨fun v M1 h => ?_, fun E M1 h => ?_⟩) (Nat.le_refl _) (Nat.le_refl _)
  · obtain ⟨h1, h2, h3⟩ := h
    obtain ⟨G1, n1⟩ := M1
    replace h3 : n1 = nx := h3
    subst h3
    have h5 : G1 547 = some (true, 3, 1, f0) := (h2.2 547 (Or.inr (by decide))).trans hC
    rcases hR with ⟨rfl, rfl⟩ | ⟨q, -, rfl, -⟩
    · cases h1
      refine ev_i2l d_PLaw_undo_6 ?_
      refine ev_last (M := (G1, n1)) h5 (i := 0) (show vp_in 0 1 from inb_vp (by decide)) d_PLaw_undo_7 ?_
      refine ev_goto (tgt := 14) (by decide) d_PLaw_undo_8 ?_
      refine cw_iconst 0 d_PLaw_undo_14 rfl ?_
      exact ev_ireturn (st := []) rfl rfl d_PLaw_undo_15 ⟨rfl, _, h2.out okC (by omega), Nat.le_refl _, Nat.le_add_right _ _, fun _ => updF_0⟩
    · cases h1
  · obtain ⟨h1, h2, h3⟩ := h
    obtain ⟨G1, n1⟩ := M1
    replace h3 : n1 = nx := h3
    subst h3
    rcases hR with ⟨rfl, rfl⟩ | ⟨q, hq, rfl, rfl⟩
    · cases h1
    · cases h1
      simp only [List.mem_cons, List.not_mem_nil, or_false] at hq
      subst hq
      refine ⟨11, ct_PLaw_undo_0, fun q9 nx9 g1 g2 => ?_⟩
      refine ev_astoreR_n (k0 := 2) rfl (Nat.le_of_ble_eq_true rfl) d_PLaw_undo_11 ?_
      refine cw_iconst 1 d_PLaw_undo_12 rfl ?_
      exact ev_ireturn (st := []) rfl rfl d_PLaw_undo_13 ⟨rfl, f0, h2.same hC, g1, g2, fun z => absurd z (by decide)⟩
theorem LW_save (d : Nat) {x1 : Int32} {o : String ⊕ Int32} {m : Mem} {r th : Int32} {mc1 ms1 : Nat} {f0 : Nat → RV} (hG : LM vc 0 535 μ G G) (hC : G 547 = some (true, 3, 1, f0)) (hR : RES [(xIOB, 1)] o r th) (hM : Mt g d m_P_save [.inr (0, off 12 0), .inl (.int x1)] (G, nx) mc1 ms1 (pRW vc 0 535 (thR rI o) m G nx)) : Mt g (d + 1) m_PLaw_save [.inr (0, 0), .inl (.int x1), .inr (0, 547)] (G, nx) mc1 ms1 (WR (r.toInt64) th m G nx) := by
  refine Mt.of9H [some (.inr (0, 0)), some (.inl (.int x1)), some (.inr (0, 547)), none] (by decide +kernel) (fun h => by cases h) rfl rfl rfl ?_
  refine ev_aload_n (k0 := 2) rfl d_PLaw_save_0 ?_
  refine cw_iconst 0 d_PLaw_save_1 rfl ?_
  refine ev_aload_n (k0 := 0) rfl d_PLaw_save_2 ?_
  refine ev_iload_n (k0 := 1) rfl d_PLaw_save_3 ?_
  refine Ev.room (mc := mc1 + 0) (ms := ms1 + 0) (ev_invVH (vs := [.inl (.int x1)]) (M := (G, nx)) (LM.obj (g := g) (nx := nx) hG v_12 rfl) lk_ProphecyShopLaw_117 hM rfl (Nat.le_of_ble_eq_true rfl) d_PLaw_save_4 ⟨fun v M1 h => ?_, fun E M1 h => ?_⟩) (Nat.le_refl _) (Nat.le_refl _)
  · obtain ⟨h1, h2, h3⟩ := h
    obtain ⟨G1, n1⟩ := M1
    replace h3 : n1 = nx := h3
    subst h3
    have h5 : G1 547 = some (true, 3, 1, f0) := (h2.2 547 (Or.inr (by decide))).trans hC
    rcases hR with ⟨rfl, rfl⟩ | ⟨q, -, rfl, -⟩
    · cases h1
      refine ev_i2l d_PLaw_save_7 ?_
      refine ev_last (M := (G1, n1)) h5 (i := 0) (show vp_in 0 1 from inb_vp (by decide)) d_PLaw_save_8 ?_
      refine ev_goto (tgt := 15) (by decide) d_PLaw_save_9 ?_
      refine cw_iconst 0 d_PLaw_save_15 rfl ?_
      exact ev_ireturn (st := []) rfl rfl d_PLaw_save_16 ⟨rfl, _, h2.out okC (by omega), Nat.le_refl _, Nat.le_add_right _ _, fun _ => updF_0⟩
    · cases h1
  · obtain ⟨h1, h2, h3⟩ := h
    obtain ⟨G1, n1⟩ := M1
    replace h3 : n1 = nx := h3
    subst h3
    rcases hR with ⟨rfl, rfl⟩ | ⟨q, hq, rfl, rfl⟩
    · cases h1
    · cases h1
      simp only [List.mem_cons, List.not_mem_nil, or_false] at hq
      subst hq
      refine ⟨12, ct_PLaw_save_0, fun q9 nx9 g1 g2 => ?_⟩
      refine ev_astoreR_n (k0 := 3) rfl (Nat.le_of_ble_eq_true rfl) d_PLaw_save_12 ?_
      refine cw_iconst 1 d_PLaw_save_13 rfl ?_
      exact ev_ireturn (st := []) rfl rfl d_PLaw_save_14 ⟨rfl, f0, h2.same hC, g1, g2, fun z => absurd z (by decide)⟩
theorem LW_restore (d : Nat) {x1 : Int32} {o : String ⊕ Int32} {m : Mem} {r th : Int32} {mc1 ms1 : Nat} {f0 : Nat → RV} (hG : LM vc 0 535 μ G G) (hC : G 547 = some (true, 3, 1, f0)) (hR : RES [(xIOB, 1), (xNSE, 2)] o r th) (hM : Mt g d m_P_restore [.inr (0, off 12 0), .inl (.int x1)] (G, nx) mc1 ms1 (pRW vc 0 535 (thR rI o) m G nx)) : Mt g (d + 1) m_PLaw_restore [.inr (0, 0), .inl (.int x1), .inr (0, 547)] (G, nx) mc1 ms1 (WR (r.toInt64) th m G nx) := by
  refine Mt.of9H [some (.inr (0, 0)), some (.inl (.int x1)), some (.inr (0, 547)), none] (by decide +kernel) (fun h => by cases h) rfl rfl rfl ?_
  refine ev_aload_n (k0 := 2) rfl d_PLaw_restore_0 ?_
  refine cw_iconst 0 d_PLaw_restore_1 rfl ?_
  refine ev_aload_n (k0 := 0) rfl d_PLaw_restore_2 ?_
  refine ev_iload_n (k0 := 1) rfl d_PLaw_restore_3 ?_
  refine Ev.room (mc := mc1 + 0) (ms := ms1 + 0) (ev_invVH (vs := [.inl (.int x1)]) (M := (G, nx)) (LM.obj (g := g) (nx := nx) hG v_12 rfl) lk_ProphecyShopLaw_120 hM rfl (Nat.le_of_ble_eq_true rfl) d_PLaw_restore_4 ⟨fun v M1 h => ?_, fun E M1 h => ?_⟩) (Nat.le_refl _) (Nat.le_refl _)
  · obtain ⟨h1, h2, h3⟩ := h
    obtain ⟨G1, n1⟩ := M1
    replace h3 : n1 = nx := h3
    subst h3
    have h5 : G1 547 = some (true, 3, 1, f0) := (h2.2 547 (Or.inr (by decide))).trans hC
    rcases hR with ⟨rfl, rfl⟩ | ⟨q, -, rfl, -⟩
    · cases h1
      refine ev_i2l d_PLaw_restore_7 ?_
      refine ev_last (M := (G1, n1)) h5 (i := 0) (show vp_in 0 1 from inb_vp (by decide)) d_PLaw_restore_8 ?_
      refine ev_goto (tgt := 18) (by decide) d_PLaw_restore_9 ?_
      refine cw_iconst 0 d_PLaw_restore_18 rfl ?_
      exact ev_ireturn (st := []) rfl rfl d_PLaw_restore_19 ⟨rfl, _, h2.out okC (by omega), Nat.le_refl _, Nat.le_add_right _ _, fun _ => updF_0⟩
    · cases h1
  · obtain ⟨h1, h2, h3⟩ := h
    obtain ⟨G1, n1⟩ := M1
    replace h3 : n1 = nx := h3
    subst h3
    rcases hR with ⟨rfl, rfl⟩ | ⟨q, hq, rfl, rfl⟩
    · cases h1
    · cases h1
      simp only [List.mem_cons, List.not_mem_nil, or_false] at hq
      rcases hq with rfl | rfl
      · refine ⟨12, ct_PLaw_restore_0, fun q9 nx9 g1 g2 => ?_⟩
        refine ev_astoreR_n (k0 := 3) rfl (Nat.le_of_ble_eq_true rfl) d_PLaw_restore_12 ?_
        refine cw_iconst 1 d_PLaw_restore_13 rfl ?_
        exact ev_ireturn (st := []) rfl rfl d_PLaw_restore_14 ⟨rfl, f0, h2.same hC, g1, g2, fun z => absurd z (by decide)⟩
      · refine ⟨15, ct_PLaw_restore_1, fun q9 nx9 g1 g2 => ?_⟩
        refine ev_astoreR_n (k0 := 3) rfl (Nat.le_of_ble_eq_true rfl) d_PLaw_restore_15 ?_
        refine cw_iconst 2 d_PLaw_restore_16 rfl ?_
        exact ev_ireturn (st := []) rfl rfl d_PLaw_restore_17 ⟨rfl, f0, h2.same hC, g1, g2, fun z => absurd z (by decide)⟩
end Wrap
/-! Writing: the wrapper of writeProphecy where it writes. -/
theorem STo.keep {G G1 : RG} {s v len : Nat} {tx : Nat → Int32} (h : STo G s v len tx) (h1 : G1 s = G s) (h2 : G1 v = G v) : STo G1 s v len tx := by
  obtain ⟨n, f, bf, a1, a2, a3, a4, a5⟩ := h
  exact ⟨n, f, bf, h1.trans a1, a2, a3, h2.trans a4, a5⟩
def WRw (μ : Mem) (tx : List Nat) (G : RG) (nx : Nat) : RO → RM → Prop := fun r M' => r = rI 0 ∧ ∃ f s, nx ≤ s ∧ s + 2 = M'.2 ∧ s ≤ nx + 40 ∧ LM vc 0 535 (st3 μ 12 0 12 (nI s)) M'.1 M'.1 ∧ STo M'.1 s (s + 1) tx.length (ltx tx) ∧ (∀ q, 535 ≤ q → q < nx → q ≠ 547 → M'.1 q = G q) ∧ M'.1 547 = some (true, 3, 1, f) ∧ f 0 = .inl (.long (nI tx.length).toInt64)
section WrapW
variable {g : GL} {G : RG} {nx : Nat} {μ : Mem}
theorem LW_wp (d : Nat) {x1 : Int32} {tx : List Nat} {f0 : Nat → RV} (hC : G 547 = some (true, 3, 1, f0)) (hG : LM vc 0 535 μ G G) (hn : 548 ≤ nx) (hM : Mt g d m_P_writeProphecy [.inr (0, off 12 0), .inl (.int x1)] (G, nx) 40 4500 (pWr G nx 40 μ tx)) : Mt g (d + 1) m_PLaw_writeProphecy [.inr (0, 0), .inl (.int x1), .inr (0, 547)] (G, nx) 40 4500 (WRw μ tx G nx) := by
  refine Mt.of9H [some (.inr (0, 0)), some (.inl (.int x1)), some (.inr (0, 547)), none] (by decide +kernel) (fun h => by cases h) rfl rfl rfl ?_
  refine ev_aload_n (k0 := 2) rfl d_PLaw_writeProphecy_0 ?_
  refine cw_iconst 0 d_PLaw_writeProphecy_1 rfl ?_
  refine ev_aload_n (k0 := 0) rfl d_PLaw_writeProphecy_2 ?_
  refine ev_iload_n (k0 := 1) rfl d_PLaw_writeProphecy_3 ?_
  refine Ev.room (mc := 40 + 0) (ms := 4500 + 0) (ev_invVH (vs := [.inl (.int x1)]) (M := (G, nx)) (LM.obj (g := g) (nx := nx) hG v_12 rfl) lk_ProphecyShopLaw_110 hM rfl (Nat.le_of_ble_eq_true rfl) d_PLaw_writeProphecy_4 ⟨fun v M1 h => ?_, fun E M1 h => ?_⟩) (Nat.le_refl _) (Nat.le_refl _)
  · obtain ⟨h1, s, a1, a2, a3, a4, a5, a6⟩ := h
    obtain ⟨G1, n1⟩ := M1
    replace a2 : s + 2 = n1 := a2
    subst a2
    have h5 : G1 547 = some (true, 3, 1, f0) := (a6 547 (by decide) (by omega)).trans hC
    cases h1
    refine ev_i2l d_PLaw_writeProphecy_7 ?_
    refine ev_last (M := (G1, s + 2)) h5 (i := 0) (show vp_in 0 1 from inb_vp (by decide)) d_PLaw_writeProphecy_8 ?_
    refine ev_goto (tgt := 15) (by decide) d_PLaw_writeProphecy_9 ?_
    refine cw_iconst 0 d_PLaw_writeProphecy_15 rfl ?_
    exact ev_ireturn (st := []) rfl rfl d_PLaw_writeProphecy_16 ⟨rfl, updF f0 (0 : Int32).toNatClampNeg (.inl (.long (nI tx.length).toInt64)), s, a1, rfl, a3, a4.out okC (by omega), a5.keep (wrG_N (by omega)) (wrG_N (by omega)), fun q q1 q2 q3 => (wrG_N q3).trans (a6 q q1 q2), (show wrG G1 547 (true, 3, 1, updF f0 (0 : Int32).toNatClampNeg (.inl (.long (nI tx.length).toInt64))) 547 = _ from wrG_S), updF_0⟩
  · obtain ⟨h1, -⟩ := h
    cases h1
theorem M_wp0 (d : Nat) {F : RG} (hG : LM vc 0 535 μ F G) {x : Int32} (hw : f_P_prophecyWith x μ = some (.inl xIOB)) : Mt g (d + 3) m_P_writeProphecy [.inr (0, off 12 0), .inl (.int x)] (G, nx) 1 6 (pRO (.inl xIOB) (G, nx)) := by
  refine Mt.of9 [some (.inr (0, off 12 0)), some (.inl (.int x)), none, none] (by decide +kernel) rfl rfl rfl rfl ?_
  refine ev_aload_n (k0 := 0) rfl d_P_writeProphecy_0 ?_
  refine ev_iload_n (k0 := 1) rfl d_P_writeProphecy_1 ?_
  exact Ev.room (mc := 1 + 0) (ms := 6 + 0) (cv_V (d := d + 2) [.inl (.int x)] hG v_12 rfl lk_ProphecyShop_198 (w_P_prophecyWith d hG hw) rfl rfl d_P_writeProphecy_2 (aft_th rfl ⟨rfl, rfl⟩)) (Nat.le_refl _) (Nat.le_refl _)
end WrapW

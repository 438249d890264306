/-! begins: the shop is read, and what then stands. -/
/-- Own's numbers -/
def OW1 (v : Mem) (b a1 a2 a3 a4 a5 E P C O : Nat) : Prop := (v 60 b 0 = nI a1 ∧ v 60 b 1 = nI a2 ∧ v 60 b 2 = nI a3 ∧ v 60 b 3 = nI a4 ∧ v 60 b 4 = nI a5 ∧ v 60 b 6 = nI E ∧ v 60 b 7 = nI P ∧ v 60 b 8 = nI C ∧ v 60 b 9 = nI O) ∧ (v 60 b 5 = 0 ∧ v 60 b 10 = 0 ∧ v 60 b 11 = 0 ∧ v 60 b 12 = 0 ∧ v 60 b 13 = 0 ∧ v 60 b 14 = 0) ∧ ∀ o, v 64 b o = 0 ∧ v 65 b o = 0
theorem OW1.fr {v v' : Mem} {k1 k2 b a1 a2 a3 a4 a5 E P C O : Nat} (h : OW1 v b a1 a2 a3 a4 a5 E P C O) (hF : FV2 k1 k2 v v') (h1 : k1 ≠ 60 ∧ k1 ≠ 64 ∧ k1 ≠ 65) (h2 : k2 ≠ 60 ∧ k2 ≠ 64 ∧ k2 ≠ 65) : OW1 v' b a1 a2 a3 a4 a5 E P C O := by
  unfold OW1
  rw [hF 60 (Ne.symm h1.1) (Ne.symm h2.1), hF 64 (Ne.symm h1.2.1) (Ne.symm h2.2.1), hF 65 (Ne.symm h1.2.2) (Ne.symm h2.2.2)]
  exact h
theorem row0 {v : Mem} {b a1 a2 a3 a4 a5 E P C O : Nat} {pu fa sp : Nat → Nat} (h : OW1 v b a1 a2 a3 a4 a5 E P C O) (hC : CU v b C pu fa) (hO : OU v b O sp) (h6 : E ≤ 6 ∧ P ≤ 6 ∧ C ≤ 8 ∧ O ≤ 5) : ROW0 a1 a2 a3 a4 a5 E P C O pu fa sp (rO (nI a1 + sm (fun c => nI (pu c)) C) b v) := by
  obtain ⟨⟨r0, r1, r2, r3, r4, r6, r7, r8, r9⟩, ⟨r5, r10, r11, r12, r13, r14⟩, hz⟩ := h
  refine ⟨⟨?_, ?_, ?_, ?_, ?_, ?_, ?_, ?_, ?_⟩, ⟨?_, ?_, ?_, ?_, ?_, ?_⟩, fun e he => ro_ne (by omega), fun p hp => ro_np (by omega), fun c hc => ⟨ro_nc (by omega), ?_, ?_⟩, fun o ho => ⟨?_, ?_⟩, fun o ho => ⟨?_, ?_⟩, rfl⟩
  · rw [ro_0 (by omega)]; exact r0
  · rw [ro_0 (by omega)]; exact r1
  · rw [ro_0 (by omega)]; exact r2
  · rw [ro_0 (by omega)]; exact r3
  · rw [ro_0 (by omega)]; exact r4
  · rw [ro_0 (by omega)]; exact r6
  · rw [ro_0 (by omega)]; exact r7
  · rw [ro_0 (by omega)]; exact r8
  · rw [ro_0 (by omega)]; exact r9
  · rw [ro_0 (by omega)]; exact r5
  · rw [ro_0 (by omega)]; exact r10
  · rw [ro_0 (by omega)]; exact r11
  · rw [ro_0 (by omega)]; exact r12
  · rw [ro_0 (by omega)]; exact r13
  · rw [ro_0 (by omega)]; exact r14
  · rw [ro_c1 (by omega)]; exact (hC c hc).1
  · rw [ro_c2 (by omega)]; exact (hC c hc).2.1
  · rw [ro_o0 (by omega)]; exact (hO o ho).1
  · rw [ro_o3 (by omega)]; exact (hO o ho).2.1
  · rw [ro_o1 ho]; exact (hz o).1
  · rw [ro_o2 ho]; exact (hz o).2
theorem sm_zero {f : Nat → Int32} : ∀ n, (∀ i, i < n → f i = 0) → sm f n = 0
  | 0, _ => rfl
  | n + 1, h => by
    show sm f n + f n = 0
    rw [sm_zero n (fun i hi => h i (by omega)), h n (by omega)]; rfl
theorem ROW0.qs {c0 : Int32} {μ v : Mem} {b s a1 a2 a3 a4 a5 E P C O : Nat} {pu fa sp : Nat → Nat} (h : ROW0 a1 a2 a3 a4 a5 E P C O pu fa sp (rO c0 b v)) (h3 : a3 ≤ 99) (hO : O ≤ 5) (h9 : μ 9 0 0 = nI s) (hST : ST μ s (rO c0 b v) E P C O) (hSH : SH μ 0 (rO c0 b v) E P C O 0 0 0 0) : QS c0 μ 0 s b v E P C O 0 0 0 0 := by
  refine ⟨h9, hST, hSH, ⟨?_, ?_, fun o ho => Or.inl (h.2.2.2.2.2.1 o ho).2, fun p hp => absurd hp (Nat.not_lt_zero _), a3, h3, h.1.2.2.1⟩, fun p hp => absurd hp (Nat.not_lt_zero _), fun p hp => absurd hp (Nat.not_lt_zero _)⟩
  · rw [h.2.2.2.2.2.2.2, h.1.1, sm_zero O (fun o ho => (h.2.2.2.2.2.2.1 o (by omega)).2), Int32.add_zero]
    congr 1
    exact sm_congr (fun c hc => ((h.2.2.2.2.1 c hc).2.1).symm)
  · exact h.2.1.2.2.2.2.2
/-- the class as it is made -/
def C00 (s : Nat) (μ : Mem) : Prop := s < 2 ∧ μ 12 0 3 = nI s ∧ μ 12 0 4 = nI (1 - s) ∧ μ 11 0 1 = 0 ∧ ∃ π : Nat → Nat, (∀ i, i < 8 → μ 34 0 i = nI (π i) ∧ 2 ≤ π i ∧ π i < 10) ∧ ∀ i i', i < 8 → i' < 8 → π i = π i' → i = i'
/-- what begins leaves -/
def pBG (n0 b : Nat) : RO → RM → Prop := fun r M' => r = rI 1 ∧ ∃ s E P C O c0 μ v, LM vc 0 535 μ M'.1 M'.1 ∧ LM (vo b) b (b + 21) v M'.1 M'.1 ∧ (1 ≤ E ∧ 1 ≤ P) ∧ μ 12 0 3 = nI s ∧ QS c0 μ 0 s b v E P C O 0 0 0 0 ∧ (∀ pl, HIS c0 μ s E P C O 0 0 pl) ∧ n0 ≤ M'.2 ∧ M'.2 ≤ n0 + 400
theorem BS.new {G G' : RG} {nx' n0 b bb : Nat} {μ v : Mem} {l : List Nat} (h1 : LM vc 0 535 μ G G) (h2 : LM (vo b) b (b + 21) v G G) (h3 : 535 ≤ b ∧ b + 21 ≤ n0) (h' : BI 400 G n0 n0 bb l (G', nx')) : BS G' nx' n0 b bb μ v l := by
  refine ⟨BI.lm h' (by omega) h1, ?_, h3, ?_⟩
  · obtain ⟨a, cap, -, -, -, q⟩ := h'
    exact KB.own (nx := n0) (fun z _ hz => q z hz) h2 h3.1 h3.2
  · obtain ⟨a, cap, q1, q2, q3, -⟩ := h'
    exact ⟨a, cap, q1, q2, q3, fun _ _ => rfl⟩
section Begin2
variable {g : GL} {n0 b bb s a1 a2 a3 a4 a5 E P C O : Nat} {μ v : Mem} {pu fa sp : Nat → Nat}
theorem beg_end (d : Nat) (hS : SG g) {G : RG} {nx : Nat} {x4 : Int32} (hB : BS G nx n0 b bb μ v (tZ a1 a2 a3 a4 a5 E P C O pu fa sp)) (hbb : bb ≤ 390) (hl : (tZ a1 a2 a3 a4 a5 E P C O pu fa sp).length ≤ 400) (h0 : C00 s μ) (h1 : OW1 v b a1 a2 a3 a4 a5 E P C O) (hU : CU v b C pu fa) (hW : OU v b O sp) (hN : (a1 ≤ 99999 ∧ (1 ≤ a2 ∧ a2 ≤ 9) ∧ a3 ≤ 99 ∧ a4 ≤ 200 ∧ a5 ≤ 200) ∧ ((1 ≤ E ∧ E ≤ 6) ∧ (1 ≤ P ∧ P ≤ 6) ∧ C ≤ 8 ∧ O ≤ 5)) : Ev g (d + 10) m_PL_begins 445 [some (.inr (0, off 12 0)), some (.inr (0, off 60 b)), some (.inr (1, 90)), some (.inr (0, n0)), some (.inl (.int x4))] [] (G, nx) 2 804 (pBG n0 b) := by
  obtain ⟨hs2, c3, c4, c11, π, hπ, hinj⟩ := h0
  have hNU : NUM a1 a2 a3 a4 a5 E P C O pu fa sp := ⟨hN.1, hN.2, fun k hk => by have := hU k hk; omega, fun k hk => by have := hU k hk; omega, fun k hk => by have := hW k hk; omega⟩
  have hok : okT (tZ a1 a2 a3 a4 a5 E P C O pu fa sp) := tZ_ok hN.2.1.2 hN.2.2.1.2 hN.2.2.2.1
  obtain ⟨hG, hO, hb, hI⟩ := hB
  have hnx := hI.nx
  replace hnx : n0 ≤ nx := hnx
  have hnb : nx ≤ n0 + bb := by obtain ⟨a, cap, -, -, q, -⟩ := hI; exact q.2
  refine ev_aload_n (k0 := 0) rfl d_PL_begins_445 ?_
  refine ev_aload_n (k0 := 3) rfl d_PL_begins_446 ?_
  refine Ev.room (mc := 2 + 0) (ms := 2 * 400 + 4 + 0) (ev_toStr2 (d := d + 4) hI lj_ProphecyShopLaw_44_1 rfl d_PL_begins_447 (fun G1 hT hF => ?_)) (by omega) (by omega)
  have hs : SR g (G1, nx + 2) (0, nx) (0, nx + 1) (tZ a1 a2 a3 a4 a5 E P C O pu fa sp) := SR.ofSTo hT (fun i hi => rfl) hok.lt (by omega) (by omega)
  have hK : KB nx G G1 := fun q _ h => hF q h
  have hG1 : LM vc 0 535 μ G1 G1 := ⟨fun K j hv => (hF _ (by have := (okC.2 K j hv).2; omega)).trans (hG.1 K j hv), fun _ _ => rfl⟩
  have hO1 := hK.own hO hb.1 (by omega)
  refine Ev.z9 (cw_S [.inr (0, off 12 0), .inr (0, nx)] lk_ProphecyShopLaw_382 (M_feeds (d + 3) hG1 hs (fun _ => by show 535 ≤ nx; omega) (fun _ => by show 535 ≤ nx + 1; omega) hok (by omega) c11) rfl rfl d_PL_begins_450 ⟨fun w9 M9 hP => ?_, fun E9 M9 hP => by obtain ⟨hv, -⟩ := hP; cases hv⟩)
  obtain ⟨hw9, p1, m1, p2, p3, p4⟩ := hP
  cases hw9
  obtain ⟨G2, nx2⟩ := M9
  replace p1 : nx2 = nx + 2 := p1
  subst p1
  replace p2 : LM vc 0 535 m1 G1 G2 := p2
  refine ev_if_eq (tgt := 475) (by decide) d_PL_begins_453 (fun c => absurd c (by decide)) (fun _ => ?_)
  refine ev_aload_n (k0 := 0) rfl d_PL_begins_456 ?_
  obtain ⟨m2, e1, e2, e3, e4, e5, e6, e7⟩ := T_load (TXs.tx p3 hok (by omega)) (show AT9 _ _ 0 (t_all a1 a2 a3 a4 a5 E P C O pu fa sp) by rw [← tZ_all]; exact ⟨Nat.zero_add _, fun k _ => by rw [Nat.zero_add]⟩) hNU hs2 ((congrFun (congrFun (p4 12 (by decide) (by decide)) 0) 3).trans c3) ((congrFun (congrFun (p4 12 (by decide) (by decide)) 0) 4).trans c4)
  refine Ev.z9 (cv_V [] (LM.refl p2) v_12 rfl lk_ProphecyShopLaw_386 (w_P_load d hS (LM.refl p2) e1) rfl rfl d_PL_begins_457 (aft_rw (fun G3 hG3 => ?_)))
  replace hG3 : LM vc 0 535 m2 G2 G3 := hG3
  refine ev_if_ne (tgt := 475) (by decide) d_PL_begins_460 (fun c => absurd rfl c) (fun _ => ?_)
  refine ev_aload_n (k0 := 0) rfl d_PL_begins_463 ?_
  refine Ev.z9 (cv_V [] (LM.refl hG3) v_12 rfl lk_ProphecyShopLaw_389 (w_P_errorPosition (d + 9) (o := -1) (LM.refl hG3) (show f_P_errorPosition m2 = some (-1) from congrArg some e2)) rfl rfl d_PL_begins_464 (aft_ro ?_))
  refine cw_iconst (-1) d_PL_begins_467 rfl ?_
  refine ev_icmp_ne (tgt := 475) (by decide) d_PL_begins_468 (fun c => absurd rfl c) (fun _ => ?_)
  refine cw_iconst 1 d_PL_begins_471 rfl ?_
  refine ev_goto (tgt := 476) (by decide) d_PL_begins_472 ?_
  have hR := row0 h1 hU hW ⟨hN.2.1.2, hN.2.2.1.2, hN.2.2.2⟩
  obtain ⟨t1, t2⟩ := e7 _ hR
  refine ev_ireturn (st := []) rfl rfl d_PL_begins_476 ⟨rfl, 1 - s, E, P, C, O, _, m2, v, LM.refl hG3, vc_own (vc_own hO1 p2 hb.1) hG3 hb.1, ⟨hN.2.1.1, hN.2.2.1.1⟩, e3, hR.qs hN.1.2.2.1 hN.2.2.2.2 e5 t1 t2, fun pl => ⟨by omega, Nat.le_refl _, e4, π, fun i hi => ?_, hinj, fun i hi => absurd hi (Nat.not_lt_zero _)⟩, by show n0 ≤ nx + 2; omega, by show nx + 2 ≤ n0 + 400; omega⟩
  rw [e6, p4 34 (by decide) (by decide)]
  exact hπ i hi
end Begin2

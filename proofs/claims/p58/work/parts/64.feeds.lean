/-! The law's setup: the text is fed, the shop is begun. -/
theorem rest_ok5 {g : GL} {a b c e : Int32} {r : Nat × Nat} : (List.map (fun v => v.category) (([.inl (.int a), .inl (.int b), .inl (.int c), .inl (.int e), .inr r] : List RV).map (conc g))).sum ≤ 8 := by
  obtain ⟨n, i⟩ := r
  cases n <;> simp [conc, Value.category]
/-- a static call above five of one slot -/
theorem cw_S5 {g : GL} {d : Nat} {mi : MI} {pc : Nat} {ls : List (Option RV)} {a b c0 e0 : Int32} {r0 : Nat × Nat} {M : RM} {mc ms : Nat} {Post : RO → RM → Prop} {idx n mc1 ms1 : Nat} {mi2 : MI} (vs : List RV) {Post1 : RO → RM → Prop} (lk : mi2.2.2.2.2 = [] ∧ LST mi.1.cls idx n mi2) (hM9 : Mt g d mi2 vs M mc1 ms1 Post1) (hn : vs.length = n) (hd : decode mi.2.1 pc = .ok (.invokestatic idx, 3)) (hA : Aft g (d + 1) mi (pc + 3) ls [.inl (.int a), .inl (.int b), .inl (.int c0), .inl (.int e0), .inr r0] mc ms Post1 Post) : Ev g (d + 1) mi pc ls (vs.reverse ++ [.inl (.int a), .inl (.int b), .inl (.int c0), .inl (.int e0), .inr r0]) M (mc1 + mc) (ms1 + ms) Post := by
  obtain ⟨hh, hlk9⟩ := lk
  intro p e R s m args below meth c H locs cells slots lsA TC TS hC hM hS hl h1 h2 h3 h4
  obtain ⟨hx, hb, hml, hown, hr, hlk, hxt, hts, hK, hf, hlo, hnm⟩ := id hC
  obtain ⟨⟨y1, y2, y3, y4, y5⟩, w1, w2, w3⟩ := hlk9
  have hG : GoodIn lw_good (va_wsS mi.1.cls idx mi2.1 (wsM mi2)) := fun w hw => by
    rcases List.mem_append.mp hw with h9 | h9
    · have : w ∈ lw_good := by simp only [List.mem_cons, List.not_mem_nil, or_false] at h9; rcases h9 with rfl | rfl | rfl <;> assumption
      exact ⟨this, good_of_word (List.mem_filter.mp this).2⟩
    · exact ws_in y5 w h9
  have hcd : cdW mi2 = .code mi2.1 mi2.2.1 mi2.2.2.1 mi2.2.2.2.1 := by unfold cdW; rw [if_pos hh]
  refine aft_go (st0 := vs.reverse ++ [.inl (.int a), .inl (.int b), .inl (.int c0), .inl (.int e0), .inr r0]) (vx_runS (As := vs.map (conc g)) (rest := ([.inl (.int a), .inl (.int b), .inl (.int c0), .inl (.int e0), .inr r0] : List RV).map (conc g)) ⟨hx, hb, hml, hown, hts⟩ (hM9 (by omega)) (va_cwS n hts hG (by unfold wsM; rw [hcd]) rfl rfl ⟨y1, y2, y3⟩ (rm_fits hf hlo y4)) ⟨pcM_blind, fun U hU hW => pre_at hM hS hK hU hW⟩ rfl (by rw [List.length_map]; exact hn) hl.1 (by rw [List.map_append, List.map_reverse]) (lv_room rest_ok5) hd ⟨by omega, by omega⟩) hA hC hS hl h1 h2 h3 h4
section Four
variable {g : GL} {M : RM} {r v : Nat × Nat} {T : List Nat}
theorem M_four (d : Nat) {k : Nat} (hs : SR g M r v T) (hT : okT T) (hl : T.length ≤ 800) (hk : k ≤ 1000) : Mt g (d + 5) m_PL_four [.inr r, .inl (.int (nI k))] M 0 0 (pRO (rI (nI (pkj T k 4))) M) := by
  obtain ⟨p1, p2, p3, p4⟩ := pkj_lt hT (k := k)
  have hs0 := hs
  obtain ⟨ci, n2, f2, b0, g1, g2, g3, g4, g5, g6, g7, g8, g9⟩ := hs
  have lk1 : LV "ProphecyShopLaw" 15 ci 0 m_String_length_8abf5 := by
    rcases g1 with rfl | rfl
    · exact lj_ProphecyShopLaw_15_0
    · exact lj_ProphecyShopLaw_15_14
  have lk2 : LV "ProphecyShopLaw" 21 ci 1 m_String_charAt_5068e := by
    rcases g1 with rfl | rfl
    · exact lj_ProphecyShopLaw_21_0
    · exact lj_ProphecyShopLaw_21_14
  refine Mt.of9 [some (.inr r), some (.inl (.int (nI k))), none, none] (by decide +kernel) rfl rfl rfl rfl ?_
  refine cw_iconst 0 d_PL_four_0 rfl ?_
  refine cw_istoreN_n 2 0 rfl [some (.inr r), some (.inl (.int (nI k))), some (.inl (.int 0)), none] d_PL_four_1 rfl rfl rfl ?_
  refine ev_iload_n (k0 := 1) rfl d_PL_four_2 ?_
  refine cw_istoreN_n 3 (nI k) rfl [some (.inr r), some (.inl (.int (nI k))), some (.inl (.int 0)), some (.inl (.int (nI k)))] d_PL_four_3 rfl rfl rfl ?_
  suffices H : ∀ j i, i + j = 4 → Ev g (d + 5) m_PL_four 4 [some (.inr r), some (.inl (.int (nI k))), some (.inl (.int (nI (pkj T k i)))), some (.inl (.int (nI (k + i))))] [] M 0 0 (pRO (rI (nI (pkj T k 4))) M) from H 4 0 (by omega)
  intro j
  induction j with
  | zero =>
    intro i hi
    obtain rfl : i = 4 := by omega
    refine ev_iload_n (k0 := 3) rfl d_PL_four_4 ?_
    refine ev_iload_n (k0 := 1) rfl d_PL_four_5 ?_
    refine cw_iconst 4 d_PL_four_6 rfl ?_
    refine ev_iadd d_PL_four_7 ?_
    rw [show nI k + 4 = nI (k + 4) from nI_add k 4]
    refine ev_icmp_ge (tgt := 40) (by decide) d_PL_four_8 (fun _ => ?_) (fun c => absurd (show nI (k + 4) ≤ nI (k + 4) from nI_le (Nat.le_refl _) (by omega)) c)
    refine ev_iload_n (k0 := 2) rfl d_PL_four_40 ?_
    exact ev_ireturn (st := []) rfl rfl d_PL_four_41 ⟨rfl, rfl⟩
  | succ j ih =>
    intro i hi
    refine ev_iload_n (k0 := 3) rfl d_PL_four_4 ?_
    refine ev_iload_n (k0 := 1) rfl d_PL_four_5 ?_
    refine cw_iconst 4 d_PL_four_6 rfl ?_
    refine ev_iadd d_PL_four_7 ?_
    rw [show nI k + 4 = nI (k + 4) from nI_add k 4]
    refine ev_icmp_ge (tgt := 40) (by decide) d_PL_four_8 (fun c => absurd c (nI_ge (show k + i < k + 4 by omega) (by omega))) (fun _ => ?_)
    refine ev_iload_n (k0 := 2) rfl d_PL_four_11 ?_
    refine cw_bipush 8 d_PL_four_12 rfl ?_
    refine ev_ishl d_PL_four_14 ?_
    refine ev_iload_n (k0 := 3) rfl d_PL_four_15 ?_
    refine ev_aload_n (k0 := 0) rfl d_PL_four_16 ?_
    have hpi : pkj T k i < 2 ^ 23 := by
      rcases (show i = 0 ∨ i = 1 ∨ i = 2 ∨ i = 3 by omega) with rfl | rfl | rfl | rfl
      · show 0 < 2 ^ 23; decide
      · omega
      · omega
      · exact p3
    have K : Ev g (d + 5) m_PL_four 32 [some (.inr r), some (.inl (.int (nI k))), some (.inl (.int (nI (pkj T k i)))), some (.inl (.int (nI (k + i))))] [.inl (.int (nI (T.getD (k + i) 0))), .inl (.int (nI (pkj T k i) <<< (8 &&& 31)))] M 0 0 (pRO (rI (nI (pkj T k 4))) M) := by
      refine ev_ior d_PL_four_32 ?_
      rw [sh8 hpi (by have := hT.le (k + i); omega)]
      refine cw_istoreN_n 2 (nI (pkj T k (i + 1))) rfl [some (.inr r), some (.inl (.int (nI k))), some (.inl (.int (nI (pkj T k (i + 1))))), some (.inl (.int (nI (k + i))))] d_PL_four_33 rfl rfl rfl ?_
      refine cw_iincN 3 1 [some (.inr r), some (.inl (.int (nI k))), some (.inl (.int (nI (pkj T k (i + 1))))), some (.inl (.int (nI (k + (i + 1)))))] d_PL_four_34 rfl rfl rfl rfl (by rw [show nI (k + (i + 1)) = nI (k + i) + 1 from (nI_add (k + i) 1).symm]; rfl) ?_
      refine ev_goto (tgt := 4) (by decide) d_PL_four_37 ?_
      exact ih (i + 1) (by omega)
    refine Ev.z9 (ev_invV (vs := []) g2 lk1 (M_length (d + 3) g1 g2 g3 g4 g5) rfl (Nat.le_of_ble_eq_true rfl) d_PL_four_17 (aft_ro ?_))
    refine ev_icmp_ge (tgt := 31) (by decide) d_PL_four_20 (fun c => ?_) (fun c => ?_)
    · have hout : T.length ≤ k + i := Nat.le_of_not_lt (fun q => absurd c (nI_ge q (by omega)))
      refine cw_iconst 0 d_PL_four_31 rfl ?_
      rw [show (0 : Int32) = nI (T.getD (k + i) 0) by rw [getD_out hout]; rfl]
      exact K
    · have hin : k + i < T.length := Nat.lt_of_not_le (fun q => c (nI_le q (by omega)))
      refine ev_aload_n (k0 := 0) rfl d_PL_four_23 ?_
      refine ev_iload_n (k0 := 3) rfl d_PL_four_24 ?_
      refine Ev.z9 (ev_invV (vs := [.inl (.int (nI (k + i)))]) g2 lk2 (M_charAt (d + 1) g1 g2 g3 g4 g5 (inb_of (by omega) (by omega)) (by omega) (by rw [nI_clamp (by omega)]; exact g6 (k + i) (by omega)) (okc_n _ (g7 (k + i) (by omega)))) rfl (Nat.le_of_ble_eq_true rfl) d_PL_four_25 (aft_ro ?_))
      exact ev_goto (tgt := 32) (by decide) d_PL_four_28 K
end Four
theorem M_feeds (d : Nat) {g : GL} {G : RG} {nx : Nat} {μ : Mem} {r v : Nat × Nat} {T : List Nat} (hG : LM vc 0 535 μ G G) (hs : SR g (G, nx) r v T) (hr : r.1 = 0 → 535 ≤ r.2) (hv : v.1 = 0 → 535 ≤ v.2) (hT : okT T) (hl : T.length ≤ 800) (h0 : μ 11 0 1 = 0) : Mt g (d + 6) m_PL_feeds [.inr (0, off 12 0), .inr r] (G, nx) 0 0 (fun r9 M' => r9 = rI 1 ∧ M'.2 = nx ∧ ∃ m, LM vc 0 535 m G M'.1 ∧ TXs m T T.length ∧ FrT μ m) := by
  refine Mt.of9 [some (.inr (0, off 12 0)), some (.inr r), none, none] (by decide +kernel) rfl rfl rfl rfl ?_
  refine cw_iconst 0 d_PL_feeds_0 rfl ?_
  refine cw_istoreN_n 2 0 rfl [some (.inr (0, off 12 0)), some (.inr r), some (.inl (.int 0)), none] d_PL_feeds_1 rfl rfl rfl ?_
  refine cw_iconst 0 d_PL_feeds_2 rfl ?_
  refine cw_istoreN_n 3 0 rfl [some (.inr (0, off 12 0)), some (.inr r), some (.inl (.int 0)), some (.inl (.int 0))] d_PL_feeds_3 rfl rfl rfl ?_
  suffices Q : ∀ j k (G1 : RG) (m : Mem), T.length ≤ k + 20 * j → k ≤ 900 → LM vc 0 535 m G G1 → TXs m T (min k T.length) → FrT μ m → Ev g (d + 6) m_PL_feeds 4 [some (.inr (0, off 12 0)), some (.inr r), some (.inl (.int (nI (min k T.length)))), some (.inl (.int (nI k)))] [] (G1, nx) 0 0 (fun r9 M' => r9 = rI 1 ∧ M'.2 = nx ∧ ∃ m, LM vc 0 535 m G M'.1 ∧ TXs m T T.length ∧ FrT μ m) from Q 40 0 G μ (by omega) (by omega) hG ⟨h0, fun i hi => absurd hi (by omega)⟩ (fun _ _ _ => rfl)
  intro j
  induction j with
  | zero =>
    intro k G1 m hj hk hG1 hm hF
    have hs1 : SR g (G1, nx) r v T := KB.sr (fun q h _ => hG1.2 q (Or.inr h)) hs (Nat.le_refl _) hr hv
    obtain ⟨ci, n2, f2, b0, g1, g2, g3, g4, g5, g6, g7, g8, g9⟩ := id hs1
    have lk1 : LV "ProphecyShopLaw" 15 ci 0 m_String_length_8abf5 := by
      rcases g1 with rfl | rfl
      · exact lj_ProphecyShopLaw_15_0
      · exact lj_ProphecyShopLaw_15_14
    refine ev_iload_n (k0 := 3) rfl d_PL_feeds_4 ?_
    refine ev_aload_n (k0 := 1) rfl d_PL_feeds_5 ?_
    refine Ev.z9 (ev_invV (vs := []) g2 lk1 (M_length (d + 4) g1 g2 g3 g4 g5) rfl (Nat.le_of_ble_eq_true rfl) d_PL_feeds_6 (aft_ro ?_))
    refine ev_icmp_ge (tgt := 59) (by decide) d_PL_feeds_9 (fun _ => ?_) (fun c => absurd (nI_le (show T.length ≤ k by omega) (by omega)) c)
    rw [show min k T.length = T.length by omega] at hm ⊢
    refine ev_iload_n (k0 := 2) rfl d_PL_feeds_59 ?_
    refine ev_aload_n (k0 := 1) rfl d_PL_feeds_60 ?_
    refine Ev.z9 (ev_invV (vs := []) g2 lk1 (M_length (d + 4) g1 g2 g3 g4 g5) rfl (Nat.le_of_ble_eq_true rfl) d_PL_feeds_61 (aft_ro ?_))
    refine ev_icmp_ne (tgt := 71) (by decide) d_PL_feeds_64 (fun c => absurd rfl c) (fun _ => ?_)
    refine cw_iconst 1 d_PL_feeds_67 rfl ?_
    refine ev_goto (tgt := 72) (by decide) d_PL_feeds_68 ?_
    exact ev_ireturn (st := []) rfl rfl d_PL_feeds_72 ⟨rfl, rfl, m, hG1, hm, hF⟩
  | succ j ih =>
    intro k G1 m hj hk hG1 hm hF
    have hs1 : SR g (G1, nx) r v T := KB.sr (fun q h _ => hG1.2 q (Or.inr h)) hs (Nat.le_refl _) hr hv
    obtain ⟨ci, n2, f2, b0, g1, g2, g3, g4, g5, g6, g7, g8, g9⟩ := id hs1
    have lk1 : LV "ProphecyShopLaw" 15 ci 0 m_String_length_8abf5 := by
      rcases g1 with rfl | rfl
      · exact lj_ProphecyShopLaw_15_0
      · exact lj_ProphecyShopLaw_15_14
    refine ev_iload_n (k0 := 3) rfl d_PL_feeds_4 ?_
    refine ev_aload_n (k0 := 1) rfl d_PL_feeds_5 ?_
    refine Ev.z9 (ev_invV (vs := []) g2 lk1 (M_length (d + 4) g1 g2 g3 g4 g5) rfl (Nat.le_of_ble_eq_true rfl) d_PL_feeds_6 (aft_ro ?_))
    by_cases c9 : T.length ≤ k
    · refine ev_icmp_ge (tgt := 59) (by decide) d_PL_feeds_9 (fun _ => ?_) (fun c => absurd (nI_le c9 (by omega)) c)
      rw [show min k T.length = T.length by omega] at hm ⊢
      refine ev_iload_n (k0 := 2) rfl d_PL_feeds_59 ?_
      refine ev_aload_n (k0 := 1) rfl d_PL_feeds_60 ?_
      refine Ev.z9 (ev_invV (vs := []) g2 lk1 (M_length (d + 4) g1 g2 g3 g4 g5) rfl (Nat.le_of_ble_eq_true rfl) d_PL_feeds_61 (aft_ro ?_))
      refine ev_icmp_ne (tgt := 71) (by decide) d_PL_feeds_64 (fun c => absurd rfl c) (fun _ => ?_)
      refine cw_iconst 1 d_PL_feeds_67 rfl ?_
      refine ev_goto (tgt := 72) (by decide) d_PL_feeds_68 ?_
      exact ev_ireturn (st := []) rfl rfl d_PL_feeds_72 ⟨rfl, rfl, m, hG1, hm, hF⟩
    · refine ev_icmp_ge (tgt := 59) (by decide) d_PL_feeds_9 (fun c => absurd c (nI_ge (Nat.lt_of_not_le c9) (by omega))) (fun _ => ?_)
      refine ev_aload_n (k0 := 0) rfl d_PL_feeds_12 ?_
      refine ev_aload_n (k0 := 1) rfl d_PL_feeds_13 ?_
      refine ev_iload_n (k0 := 3) rfl d_PL_feeds_14 ?_
      refine Ev.z9 (cw_S [.inr r, .inl (.int (nI k))] lk_ProphecyShopLaw_25 (M_four (d + 0) hs1 hT hl (by omega)) rfl rfl d_PL_feeds_15 (aft_ro ?_))
      refine ev_aload_n (k0 := 1) rfl d_PL_feeds_18 ?_
      refine ev_iload_n (k0 := 3) rfl d_PL_feeds_19 ?_
      refine cw_iconst 4 d_PL_feeds_20 rfl ?_
      refine ev_iadd d_PL_feeds_21 ?_
      rw [show nI k + 4 = nI (k + 4) from nI_add k 4]
      refine Ev.z9 (cw_S [.inr r, .inl (.int (nI (k + 4)))] lk_ProphecyShopLaw_25 (M_four (d + 0) hs1 hT hl (by omega)) rfl rfl d_PL_feeds_22 (aft_ro ?_))
      refine ev_aload_n (k0 := 1) rfl d_PL_feeds_25 ?_
      refine ev_iload_n (k0 := 3) rfl d_PL_feeds_26 ?_
      refine cw_bipush 8 d_PL_feeds_27 rfl ?_
      refine ev_iadd d_PL_feeds_29 ?_
      rw [show nI k + 8 = nI (k + 8) from nI_add k 8]
      refine Ev.z9 (cw_S [.inr r, .inl (.int (nI (k + 8)))] lk_ProphecyShopLaw_25 (M_four (d + 0) hs1 hT hl (by omega)) rfl rfl d_PL_feeds_30 (aft_ro ?_))
      refine ev_aload_n (k0 := 1) rfl d_PL_feeds_33 ?_
      refine ev_iload_n (k0 := 3) rfl d_PL_feeds_34 ?_
      refine cw_bipush 12 d_PL_feeds_35 rfl ?_
      refine ev_iadd d_PL_feeds_37 ?_
      rw [show nI k + 12 = nI (k + 12) from nI_add k 12]
      refine Ev.z9 (cw_S [.inr r, .inl (.int (nI (k + 12)))] lk_ProphecyShopLaw_25 (M_four (d + 0) hs1 hT hl (by omega)) rfl rfl d_PL_feeds_38 (aft_ro ?_))
      refine ev_aload_n (k0 := 1) rfl d_PL_feeds_41 ?_
      refine ev_iload_n (k0 := 3) rfl d_PL_feeds_42 ?_
      refine cw_bipush 16 d_PL_feeds_43 rfl ?_
      refine ev_iadd d_PL_feeds_45 ?_
      rw [show nI k + 16 = nI (k + 16) from nI_add k 16]
      refine Ev.z9 (cw_S5 [.inr r, .inl (.int (nI (k + 16)))] lk_ProphecyShopLaw_25 (M_four (d + 0) hs1 hT hl (by omega)) rfl d_PL_feeds_46 (aft_ro ?_))
      obtain ⟨m2, t1, t2, t3⟩ := T_append hT hl hm
      refine Ev.z9 (cv_V [.inl (.int (nI (pkj T k 4))), .inl (.int (nI (pkj T (k + 4) 4))), .inl (.int (nI (pkj T (k + 8) 4))), .inl (.int (nI (pkj T (k + 12) 4))), .inl (.int (nI (pkj T (k + 16) 4)))] (LM.refl hG1) v_12 rfl lk_ProphecyShopLaw_29 (w_P_append (d + 3) (LM.refl hG1) t1) rfl rfl d_PL_feeds_49 (aft_rw (fun G2 hG2 => ?_)))
      refine cw_istoreN_n 2 (nI (min (k + 20) T.length)) rfl [some (.inr (0, off 12 0)), some (.inr r), some (.inl (.int (nI (min (k + 20) T.length)))), some (.inl (.int (nI k)))] d_PL_feeds_52 rfl rfl rfl ?_
      refine cw_iincN 3 20 [some (.inr (0, off 12 0)), some (.inr r), some (.inl (.int (nI (min (k + 20) T.length)))), some (.inl (.int (nI (k + 20))))] d_PL_feeds_53 rfl rfl rfl rfl (by rw [show nI (k + 20) = nI k + 20 from (nI_add _ _).symm]; rfl) ?_
      refine ev_goto (tgt := 4) (by decide) d_PL_feeds_56 ?_
      exact ih (k + 20) G2 m2 (by omega) (by omega) ⟨hG2.1, fun q h => (hG2.2 q h).trans (hG1.2 q h)⟩ t2 (hF.tr t3)

/-! The law from its entry to its end. -/
theorem lt55 : ∀ v, v < 55 → (v = 0 ∨ v = 1 ∨ v = 2 ∨ v = 3 ∨ v = 4 ∨ v = 5 ∨ v = 6 ∨ v = 7 ∨ v = 8 ∨ v = 9 ∨ v = 10 ∨ v = 11 ∨ v = 12 ∨ v = 13 ∨ v = 14 ∨ v = 15 ∨ v = 16 ∨ v = 17 ∨ v = 18 ∨ v = 19 ∨ v = 20 ∨ v = 21 ∨ v = 22 ∨ v = 23 ∨ v = 24 ∨ v = 25 ∨ v = 26 ∨ v = 27 ∨ v = 28 ∨ v = 29 ∨ v = 30 ∨ v = 31 ∨ v = 32 ∨ v = 33 ∨ v = 34 ∨ v = 35 ∨ v = 36 ∨ v = 37 ∨ v = 38 ∨ v = 39 ∨ v = 40 ∨ v = 41 ∨ v = 42 ∨ v = 43 ∨ v = 44 ∨ v = 45 ∨ v = 46 ∨ v = 47 ∨ v = 48 ∨ v = 49 ∨ v = 50 ∨ v = 51 ∨ v = 52 ∨ v = 53 ∨ v = 54) := by
  intro v hv
  omega
theorem wLI.mono {μ ν : Mem} {l : List Nat} {G : RG} {nx n : Nat} (h : wLI μ ν l G nx n) : wLI μ ν l G nx (n + 1) := by
  obtain ⟨a1, a2, a3, a4, a5, a6, a7, a8⟩ := h
  exact ⟨a1, a2, a3, a4, a5, a6, a7, by rw [wB_s]; exact Nat.le_trans a8 (Nat.le_add_right _ _)⟩
theorem sub7s : ∀ L, L < 7 → ∀ i, i < 7 → nI L - 7 < nI i := by decide +kernel
theorem sub7_lt {L i : Nat} (hL : L ≤ 3584) (h : L < i + 7) (hi : i ≤ L) : nI L - 7 < nI i := by
  rcases Nat.lt_or_ge L 7 with q | q
  · exact sub7s L q i (by omega)
  · rw [show (7 : Int32) = nI 7 from rfl, nI_sub q]
    exact nI_lt (by omega) (by omega)
theorem sub7_nlt {L i : Nat} (hL : L ≤ 3584) (h : i + 7 ≤ L) : ¬ nI L - 7 < nI i := by
  rw [show (7 : Int32) = nI 7 from rfl, nI_sub (by omega)]
  exact nI_nlt (by omega) (by omega)
section Body
variable {g : GL} {d : Nat} {xs : Nat → Int32} {L : Nat}
set_option maxRecDepth 100000 in
theorem law_switch (hs : g.2.2.2.2.2 90 = some (true, 0, L, fun q => .inl (.int (xs q)))) (hL : L ≤ 3584) (hS : SG g) (hD : DG g) {i n nx mc ms : Nat} {Post : RO → RM → Prop} {μ ν : Mem} {l : List Nat} {G : RG} (hi : i + 7 ≤ L) (hn : n < 512) (hI : wLI μ ν l G nx n) (hk : wKN g (d + 40) i n mc ms Post) {v : Nat} (hv : v < 64) : Ev g (d + 40) m_law 40 (wLS i) [.inl (.int (nI v))] (G, nx) (60 + mc) (7000 + ms) Post := by
  rcases Nat.lt_or_ge v 55 with h | h
  · rcases lt55 v h with rfl | rfl | rfl | rfl | rfl | rfl | rfl | rfl | rfl | rfl | rfl | rfl | rfl | rfl | rfl | rfl | rfl | rfl | rfl | rfl | rfl | rfl | rfl | rfl | rfl | rfl | rfl | rfl | rfl | rfl | rfl | rfl | rfl | rfl | rfl | rfl | rfl | rfl | rfl | rfl | rfl | rfl | rfl | rfl | rfl | rfl | rfl | rfl | rfl | rfl | rfl | rfl | rfl | rfl | rfl
    · exact ev_tabIn (by decide +kernel) (by decide +kernel) (off := 236) (tgt := 276) (by decide +kernel) (by decide) d_law_40 (C_0 hs hL hi hn hS hD hI hk)
    · exact ev_tabIn (by decide +kernel) (by decide +kernel) (off := 340) (tgt := 380) (by decide +kernel) (by decide) d_law_40 (C_1 hs hL hi hn hS hD hI hk)
    · exact ev_tabIn (by decide +kernel) (by decide +kernel) (off := 396) (tgt := 436) (by decide +kernel) (by decide) d_law_40 (C_2 hs hL hi hn hS hD hI hk)
    · exact ev_tabIn (by decide +kernel) (by decide +kernel) (off := 409) (tgt := 449) (by decide +kernel) (by decide) d_law_40 (C_3 hs hL hi hn hS hD hI hk)
    · exact ev_tabIn (by decide +kernel) (by decide +kernel) (off := 422) (tgt := 462) (by decide +kernel) (by decide) d_law_40 (C_4 hs hL hi hn hS hD hI hk)
    · exact ev_tabIn (by decide +kernel) (by decide +kernel) (off := 435) (tgt := 475) (by decide +kernel) (by decide) d_law_40 (C_5 hs hL hi hn hS hD hI hk)
    · exact ev_tabIn (by decide +kernel) (by decide +kernel) (off := 448) (tgt := 488) (by decide +kernel) (by decide) d_law_40 (C_6 hs hL hi hn hS hD hI hk)
    · exact ev_tabIn (by decide +kernel) (by decide +kernel) (off := 461) (tgt := 501) (by decide +kernel) (by decide) d_law_40 (C_7 hs hL hi hn hS hD hI hk)
    · exact ev_tabIn (by decide +kernel) (by decide +kernel) (off := 474) (tgt := 514) (by decide +kernel) (by decide) d_law_40 (C_8 hs hL hi hn hS hD hI hk)
    · exact ev_tabIn (by decide +kernel) (by decide +kernel) (off := 487) (tgt := 527) (by decide +kernel) (by decide) d_law_40 (C_9 hs hL hi hn hS hD hI hk)
    · exact ev_tabIn (by decide +kernel) (by decide +kernel) (off := 500) (tgt := 540) (by decide +kernel) (by decide) d_law_40 (C_10 hs hL hi hn hS hD hI hk)
    · exact ev_tabIn (by decide +kernel) (by decide +kernel) (off := 513) (tgt := 553) (by decide +kernel) (by decide) d_law_40 (C_11 hs hL hi hn hS hD hI hk)
    · exact ev_tabIn (by decide +kernel) (by decide +kernel) (off := 526) (tgt := 566) (by decide +kernel) (by decide) d_law_40 (C_12 hs hL hi hn hS hD hI hk)
    · exact ev_tabIn (by decide +kernel) (by decide +kernel) (off := 582) (tgt := 622) (by decide +kernel) (by decide) d_law_40 (C_13 hs hL hi hn hS hD hI hk)
    · exact ev_tabIn (by decide +kernel) (by decide +kernel) (off := 650) (tgt := 690) (by decide +kernel) (by decide) d_law_40 (C_14 hs hL hi hn hS hD hI hk)
    · exact ev_tabIn (by decide +kernel) (by decide +kernel) (off := 737) (tgt := 777) (by decide +kernel) (by decide) d_law_40 (C_15 hs hL hi hn hS hD hI hk)
    · exact ev_tabIn (by decide +kernel) (by decide +kernel) (off := 750) (tgt := 790) (by decide +kernel) (by decide) d_law_40 (C_16 hs hL hi hn hS hD hI hk)
    · exact ev_tabIn (by decide +kernel) (by decide +kernel) (off := 763) (tgt := 803) (by decide +kernel) (by decide) d_law_40 (C_17 hs hL hi hn hS hD hI hk)
    · exact ev_tabIn (by decide +kernel) (by decide +kernel) (off := 819) (tgt := 859) (by decide +kernel) (by decide) d_law_40 (C_18 hs hL hi hn hS hD hI hk)
    · exact ev_tabIn (by decide +kernel) (by decide +kernel) (off := 875) (tgt := 915) (by decide +kernel) (by decide) d_law_40 (C_19 hs hL hi hn hS hD hI hk)
    · exact ev_tabIn (by decide +kernel) (by decide +kernel) (off := 931) (tgt := 971) (by decide +kernel) (by decide) d_law_40 (C_20 hs hL hi hn hS hD hI hk)
    · exact ev_tabIn (by decide +kernel) (by decide +kernel) (off := 994) (tgt := 1034) (by decide +kernel) (by decide) d_law_40 (C_21 hs hL hi hn hS hD hI hk)
    · exact ev_tabIn (by decide +kernel) (by decide +kernel) (off := 1050) (tgt := 1090) (by decide +kernel) (by decide) d_law_40 (C_22 hs hL hi hn hS hD hI hk)
    · exact ev_tabIn (by decide +kernel) (by decide +kernel) (off := 1106) (tgt := 1146) (by decide +kernel) (by decide) d_law_40 (C_23 hs hL hi hn hS hD hI hk)
    · exact ev_tabIn (by decide +kernel) (by decide +kernel) (off := 1162) (tgt := 1202) (by decide +kernel) (by decide) d_law_40 (C_24 hs hL hi hn hS hD hI hk)
    · exact ev_tabIn (by decide +kernel) (by decide +kernel) (off := 1218) (tgt := 1258) (by decide +kernel) (by decide) d_law_40 (C_25 hs hL hi hn hS hD hI hk)
    · exact ev_tabIn (by decide +kernel) (by decide +kernel) (off := 1274) (tgt := 1314) (by decide +kernel) (by decide) d_law_40 (C_26 hs hL hi hn hS hD hI hk)
    · exact ev_tabIn (by decide +kernel) (by decide +kernel) (off := 1287) (tgt := 1327) (by decide +kernel) (by decide) d_law_40 (C_27 hs hL hi hn hS hD hI hk)
    · exact ev_tabIn (by decide +kernel) (by decide +kernel) (off := 1343) (tgt := 1383) (by decide +kernel) (by decide) d_law_40 (C_28 hs hL hi hn hS hD hI hk)
    · exact ev_tabIn (by decide +kernel) (by decide +kernel) (off := 1399) (tgt := 1439) (by decide +kernel) (by decide) d_law_40 (C_29 hs hL hi hn hS hD hI hk)
    · exact ev_tabIn (by decide +kernel) (by decide +kernel) (off := 1455) (tgt := 1495) (by decide +kernel) (by decide) d_law_40 (C_30 hs hL hi hn hS hD hI hk)
    · exact ev_tabIn (by decide +kernel) (by decide +kernel) (off := 1468) (tgt := 1508) (by decide +kernel) (by decide) d_law_40 (C_31 hs hL hi hn hS hD hI hk)
    · exact ev_tabIn (by decide +kernel) (by decide +kernel) (off := 1524) (tgt := 1564) (by decide +kernel) (by decide) d_law_40 (C_32 hs hL hi hn hS hD hI hk)
    · exact ev_tabIn (by decide +kernel) (by decide +kernel) (off := 1580) (tgt := 1620) (by decide +kernel) (by decide) d_law_40 (C_33 hs hL hi hn hS hD hI hk)
    · exact ev_tabIn (by decide +kernel) (by decide +kernel) (off := 1636) (tgt := 1676) (by decide +kernel) (by decide) d_law_40 (C_34 hs hL hi hn hS hD hI hk)
    · exact ev_tabIn (by decide +kernel) (by decide +kernel) (off := 1649) (tgt := 1689) (by decide +kernel) (by decide) d_law_40 (C_35 hs hL hi hn hS hD hI hk)
    · exact ev_tabIn (by decide +kernel) (by decide +kernel) (off := 1662) (tgt := 1702) (by decide +kernel) (by decide) d_law_40 (C_36 hs hL hi hn hS hD hI hk)
    · exact ev_tabIn (by decide +kernel) (by decide +kernel) (off := 1705) (tgt := 1745) (by decide +kernel) (by decide) d_law_40 (C_37 hs hL hi hn hS hD hI hk)
    · exact ev_tabIn (by decide +kernel) (by decide +kernel) (off := 1746) (tgt := 1786) (by decide +kernel) (by decide) d_law_40 (C_38 hs hL hi hn hS hD hI hk)
    · exact ev_tabIn (by decide +kernel) (by decide +kernel) (off := 1759) (tgt := 1799) (by decide +kernel) (by decide) d_law_40 (C_39 hs hL hi hn hS hD hI hk)
    · exact ev_tabIn (by decide +kernel) (by decide +kernel) (off := 1815) (tgt := 1855) (by decide +kernel) (by decide) d_law_40 (C_40 hs hL hi hn hS hD hI hk)
    · exact ev_tabIn (by decide +kernel) (by decide +kernel) (off := 1871) (tgt := 1911) (by decide +kernel) (by decide) d_law_40 (C_41 hs hL hi hn hS hD hI hk)
    · exact ev_tabIn (by decide +kernel) (by decide +kernel) (off := 1927) (tgt := 1967) (by decide +kernel) (by decide) d_law_40 (C_42 hs hL hi hn hS hD hI hk)
    · exact ev_tabIn (by decide +kernel) (by decide +kernel) (off := 2045) (tgt := 2085) (by decide +kernel) (by decide) d_law_40 (C_43 hs hL hi hn hS hD hI hk)
    · exact ev_tabIn (by decide +kernel) (by decide +kernel) (off := 2149) (tgt := 2189) (by decide +kernel) (by decide) d_law_40 (C_44 hs hL hi hn hS hD hI hk)
    · exact ev_tabIn (by decide +kernel) (by decide +kernel) (off := 2267) (tgt := 2307) (by decide +kernel) (by decide) d_law_40 (C_45 hs hL hi hn hS hD hI hk)
    · exact ev_tabIn (by decide +kernel) (by decide +kernel) (off := 2335) (tgt := 2375) (by decide +kernel) (by decide) d_law_40 (C_46 hs hL hi hn hS hD hI hk)
    · exact ev_tabIn (by decide +kernel) (by decide +kernel) (off := 2391) (tgt := 2431) (by decide +kernel) (by decide) d_law_40 (C_47 hs hL hi hn hS hD hI hk)
    · exact ev_tabIn (by decide +kernel) (by decide +kernel) (off := 2447) (tgt := 2487) (by decide +kernel) (by decide) d_law_40 (C_48 hs hL hi hn hS hD hI hk)
    · exact ev_tabIn (by decide +kernel) (by decide +kernel) (off := 2503) (tgt := 2543) (by decide +kernel) (by decide) d_law_40 (C_49 hs hL hi hn hS hD hI hk)
    · exact ev_tabIn (by decide +kernel) (by decide +kernel) (off := 2516) (tgt := 2556) (by decide +kernel) (by decide) d_law_40 (C_50 hs hL hi hn hS hD hI hk)
    · exact ev_tabIn (by decide +kernel) (by decide +kernel) (off := 2541) (tgt := 2581) (by decide +kernel) (by decide) d_law_40 (C_51 hs hL hi hn hS hD hI hk)
    · exact ev_tabIn (by decide +kernel) (by decide +kernel) (off := 2554) (tgt := 2594) (by decide +kernel) (by decide) d_law_40 (C_52 hs hL hi hn hS hD hI hk)
    · exact ev_tabIn (by decide +kernel) (by decide +kernel) (off := 2598) (tgt := 2638) (by decide +kernel) (by decide) d_law_40 (C_53 hs hL hi hn hS hD hI hk)
    · exact ev_tabIn (by decide +kernel) (by decide +kernel) (off := 2654) (tgt := 2694) (by decide +kernel) (by decide) d_law_40 (C_54 hs hL hi hn hS hD hI hk)
  · refine ev_tabOut (tgt := 2750) (Or.inr ?_) (by decide) d_law_40 (Ev.room (hk hI.mono) (by omega) (by omega))
    rw [nI_toInt (by omega)]
    omega
theorem law_loop (hs : g.2.2.2.2.2 90 = some (true, 0, L, fun q => .inl (.int (xs q)))) (hL : L ≤ 3584) (hS : SG g) (hD : DG g) : ∀ (k i n : Nat) {nx : Nat} {μ ν : Mem} {l : List Nat} {G : RG}, i + 7 * k ≤ L → L < i + 7 * k + 7 → n + k ≤ 512 → wLI μ ν l G nx n → Ev g (d + 40) m_law 23 (wLS i) [] (G, nx) (60 * k) (7000 * k) (fun r _ => r = rI 1) := by
  intro k
  induction k with
  | zero =>
    intro i n nx μ ν l G h1 h2 hn hI
    refine ev_iload (i := 4) rfl d_law_23 ?_
    refine ev_aload_n (k0 := 0) rfl d_law_25 ?_
    refine ev_alen (ei := 0) (n := L) (show rdM g (G, nx) (1, 90) = _ from hs) d_law_26 ?_
    refine cw_bipush 7 d_law_27 rfl ?_
    refine ev_isub d_law_29 ?_
    refine ev_icmp_gt (tgt := 2756) (by decide) d_law_30 (fun _ => ?_) (fun z => absurd (sub7_lt hL (by omega) (by omega)) z)
    refine cw_iconst 1 d_law_2756 rfl ?_
    exact ev_ireturn (st := []) (ty := .boolean) rfl rfl d_law_2757 rfl
  | succ k ih =>
    intro i n nx μ ν l G h1 h2 hn hI
    have hi : i + 7 ≤ L := by omega
    refine ev_iload (i := 4) rfl d_law_23 ?_
    refine ev_aload_n (k0 := 0) rfl d_law_25 ?_
    refine ev_alen (ei := 0) (n := L) (show rdM g (G, nx) (1, 90) = _ from hs) d_law_26 ?_
    refine cw_bipush 7 d_law_27 rfl ?_
    refine ev_isub d_law_29 ?_
    refine ev_icmp_gt (tgt := 2756) (by decide) d_law_30 (fun z => absurd z (sub7_nlt hL hi)) (fun _ => ?_)
    refine ev_aload_n (k0 := 0) rfl d_law_33 ?_
    refine ev_iload (i := 4) rfl d_law_34 ?_
    refine ev_iald (n := L) (f := fun q => .inl (.int (xs q))) (show rdM g (G, nx) (1, 90) = _ from hs) (vp_in_nI (by omega) (by omega)) d_law_36 ?_
    refine cw_bipush 63 d_law_37 rfl ?_
    refine ev_iand d_law_39 ?_
    obtain ⟨v, hv, e⟩ := pk_andE (xs (nI i).toNatClampNeg) (m := 63) 6 (by decide)
    rw [e]
    refine Ev.room (law_switch (mc := 60 * k) (ms := 7000 * k) hs hL hS hD hi (by omega) hI (fun {μ1 ν1 l1 G1 nx1} hI1 => ?_) hv) (by omega) (by omega)
    refine cw_iincN 4 7 (wLS (i + 7)) d_law_2750 rfl rfl rfl rfl ?_ ?_
    · show [_, _, _, _, some (.inl (.int (nI i + 7))), none, none, none, none] = wLS (i + 7)
      rw [show (7 : Int32) = nI 7 from rfl, nI_add]
      rfl
    · refine ev_goto (tgt := 23) (by decide) d_law_2753 ?_
      exact ih (i + 7) (n + 1) (by omega) (by omega) (by omega) hI1
theorem law_all (hs : g.2.2.2.2.2 90 = some (true, 0, L, fun q => .inl (.int (xs q)))) (hL : L ≤ 3584) (hS : SG g) (hD : DG g) : Ev g (d + 40) m_law 0 [some (.inr (1, 90)), none, none, none, none, none, none, none, none] [] (fun _ => none, 0) 40000 4000000 (fun r _ => r = rI 1) := by
  obtain ⟨m, er, v, e1, e2, hg, h12, h28⟩ := GR_first
  refine Ev.room (mc := (534 + (11 + (60 * (L / 7) + 1)) + 1) + 1) (ms := (8029 + ((8062 + (7000 * (L / 7) + 1)) + 29)) + 13) ?_ (by omega) (by omega)
  refine ev_new (M := (fun _ => none, 0)) coC_12 cl_PLaw_8 in_ProphecyShop ii_ProphecyShop d_law_0 ?_
  refine ev_dup rfl d_law_3 ?_
  refine Ev.room (mc := 534 + ((11 + (60 * (L / 7) + 1)) + 1)) (ms := 8029 + ((8062 + (7000 * (L / 7) + 1)) + 29)) ?_ (by omega) (by omega)
  refine ev_invI (d := d + 39) (vs := []) (r := (0, 0)) li_123 (M_P_init (d + 28) hS wrG_S e1) rfl (Nat.le_of_ble_eq_true rfl) d_law_4 ⟨fun w M1 h => ?_, fun E M1 h => by obtain ⟨h1, -⟩ := h; cases h1⟩
  obtain ⟨h1, a1, a2⟩ := h
  obtain ⟨G1, n1⟩ := M1
  cases h1
  replace a2 : n1 = 535 := a2
  subst a2
  replace a1 : LM vc 0 535 m (fun _ => none) G1 := a1
  refine cw_astoreN_n 1 [some (.inr (1, 90)), some (.inr (0, 0)), none, none, none, none, none, none, none] d_law_7 rfl rfl rfl ?_
  refine ev_new (M := (G1, 535)) coC_13 cl_PLaw_124 in_ProphecyShopModel ii_ProphecyShopModel d_law_8 ?_
  refine ev_dup rfl d_law_11 ?_
  refine ev_invI (d := d + 39) (vs := []) (r := (0, 535)) li_126 (M_R_init (d + 29) hS wrG_S e2) rfl (Nat.le_of_ble_eq_true rfl) d_law_12 ⟨fun w M1 h => ?_, fun E M1 h => by obtain ⟨h1, -⟩ := h; cases h1⟩
  obtain ⟨h1, b1, b2⟩ := h
  obtain ⟨G3, n3⟩ := M1
  cases h1
  replace b2 : n3 = 547 := b2
  subst b2
  replace b1 : LM vr 535 547 v (cut 535 (wrG G1 535 (false, 13, 0, dflt tyX12))) G3 := b1
  refine cw_astoreN_n 2 [some (.inr (1, 90)), some (.inr (0, 0)), some (.inr (0, 535)), none, none, none, none, none, none] d_law_15 rfl rfl rfl ?_
  refine cw_iconst 1 d_law_16 rfl ?_
  refine ev_newa (M := (G3, 547)) (ei := 3) (n := 1) (at0 := .long) (ty := .long) rfl rfl (by decide) ac_long (by decide) (by decide) (by decide) d_law_17 ?_
  refine cw_astoreN_n 3 [some (.inr (1, 90)), some (.inr (0, 0)), some (.inr (0, 535)), some (.inr (0, 547)), none, none, none, none, none] d_law_19 rfl rfl rfl ?_
  refine cw_iconst 0 d_law_20 rfl ?_
  refine cw_istoreN 4 0 rfl (wLS 0) d_law_21 rfl rfl rfl ?_
  have hC : LM vc 0 535 m G3 G3 := ⟨fun K j hv => by
    have hb := (okC.2 K j hv).2
    refine (b1.2 _ (Or.inl hb)).trans ?_
    unfold cut
    rw [if_pos hb, wrG_N (by omega)]
    exact a1.1 K j hv, fun _ _ => rfl⟩
  refine law_loop hs hL hS hD (L / 7) 0 0 (by omega) (by omega) (by omega) (l := []) ⟨(hC.out okC (by omega)), ⟨fun K j hv => ?_, fun _ _ => rfl⟩, ⟨_, wrG_S⟩, hg, OUTM.nil h28, ⟨by decide, fun i hi => absurd hi (Nat.not_lt_zero _), Or.inl ⟨by rw [h12]; decide, rfl⟩⟩, Nat.le_refl _, Nat.le_refl _⟩
  rw [wrG_N (by have := (okR.2 K j hv).2; omega)]
  exact b1.1 K j hv
end Body

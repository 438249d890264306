/-! A copy of Own is as Own; what is foretold. -/
def livK (n w t k : Nat) : Prop := k < 80 + 10 * n ∨ (320 ≤ k ∧ k < 320 + 3 * t) ∨ (500 ≤ k ∧ k < 500 + w)
theorem colK_in {z : Nat} (h : z < 10) : (68 ≤ colK z ∧ colK z ≤ 76) ∨ colK z = 78 := by
  unfold colK
  split
  · omega
  · split <;> omega
theorem liv_dec {n w t k : Nat} (hn : n ≤ 24) (ht : t ≤ 60) (h : livK n w t k) : (decR k).1 = 0 ∨ cD 8 5 n w t (decR k).1 (decR k).2 := by
  unfold livK at h
  unfold decR
  by_cases h1 : k < 15
  · rw [if_pos h1]; exact Or.inr (Or.inl ⟨rfl, h1⟩)
  rw [if_neg h1]
  by_cases h2 : k < 28
  · rw [if_pos h2]; exact Or.inl rfl
  rw [if_neg h2]
  by_cases h3 : k < 52
  · rw [if_pos h3]
    by_cases e : (k - 28) % 3 = 0
    · rw [if_pos e]; exact Or.inl rfl
    · rw [if_neg e]
      refine Or.inr (Or.inr (Or.inl ⟨?_, ?_⟩))
      · show 61 ≤ 60 + (k - 28) % 3 ∧ 60 + (k - 28) % 3 ≤ 62
        omega
      · show (k - 28) / 3 < 8
        omega
  rw [if_neg h3]
  by_cases h4 : k < 77
  · rw [if_pos h4]
    refine Or.inr (Or.inr (Or.inr (Or.inl ⟨?_, ?_⟩)))
    · show 63 ≤ 63 + (k - 52) % 5 ∧ 63 + (k - 52) % 5 ≤ 67
      omega
    · show (k - 52) / 5 < 5
      omega
  rw [if_neg h4]
  by_cases h5 : k < 80
  · rw [if_pos h5]; exact Or.inl rfl
  rw [if_neg h5]
  by_cases h6 : k < 320
  · rw [if_pos h6]
    refine Or.inr (Or.inr (Or.inr (Or.inr (Or.inl ⟨colK_in (Nat.mod_lt _ (by decide)), ?_⟩))))
    show (k - 80) / 10 < n
    omega
  rw [if_neg h6]
  by_cases h7 : k < 500
  · rw [if_pos h7]
    by_cases h8 : (k - 320) % 3 < 2
    · rw [if_pos h8]
      exact Or.inr (Or.inr (Or.inr (Or.inr (Or.inr (Or.inr ⟨⟨by show 79 ≤ 79; omega, by show 79 ≤ 80; omega⟩, by show (k - 320) / 3 < t; omega⟩)))))
    · rw [if_neg h8]
      exact Or.inr (Or.inr (Or.inr (Or.inr (Or.inr (Or.inr ⟨⟨by show 79 ≤ 80; omega, by show 80 ≤ 80; omega⟩, by show (k - 320) / 3 < t; omega⟩)))))
  rw [if_neg h7]
  refine Or.inr (Or.inr (Or.inr (Or.inr (Or.inr (Or.inl ⟨rfl, ?_⟩)))))
  show k - 500 < w
  omega
theorem rO_cp {c0 : Int32} {b b' n w t k : Nat} {u v : Mem} (h : CPd b b' v (cD 8 5 n w t) u) (hn : n ≤ 24) (ht : t ≤ 60) (hk : livK n w t k) : rO c0 b' u k = rO c0 b v k := by
  unfold rO
  rcases liv_dec hn ht hk with e | e
  · rw [if_pos e, if_pos e]
  · have hne : (decR k).1 ≠ 0 := fun z => by
      rw [z] at e
      unfold cD at e
      omega
    rw [if_neg hne, if_neg hne]
    by_cases e1 : (decR k).1 = 79
    · rw [e1] at e
      rw [if_pos e1, if_pos e1, h 79 _ e]
    · rw [if_neg e1, if_neg e1]
      exact h _ _ e
theorem QS.copy {c0 : Int32} {μ u v : Mem} {s b b' E P C O n w t dd : Nat} (hQ : QS c0 μ 0 s b v E P C O n w t dd) (h : CPd b b' v (cD 8 5 n w t) u) : QS c0 μ 0 s b' u E P C O n w t dd := by
  obtain ⟨h0, hT, hS, hI, hV, hN⟩ := hQ
  obtain ⟨g1, g2, g3, g4, g5, g6⟩ := hS
  have hn : n ≤ 24 := g1.1
  have hw : w ≤ 24 := g1.2.1
  have ht : t ≤ 60 := g1.2.2.1
  have hC : C ≤ 8 := hT.2.2.2.1
  have hO : O ≤ 5 := hT.2.2.2.2.1
  have ha : ∀ k, livK n w t k → rO c0 b' u k = rO c0 b v k := fun k hk => rO_cp h hn ht hk
  have e : ∀ k, k < 80 + 10 * n → rO c0 b' u k = rO c0 b v k := fun k hk => ha k (Or.inl hk)
  refine ⟨h0, hT.cong (fun k hk => e k (by unfold dynI at hk; omega)), ⟨?_, fun p hp => (g2 p hp).cong (fun f _ => rfl) (fun f hf => e _ (by omega)), ⟨fun o ho => (g3.1 o ho).cong (fun f _ => rfl) (fun f hf => e _ (by omega)), g3.2⟩, ⟨fun c hc => by rw [e _ (by omega)]; exact g4.1 c hc, g4.2⟩, ⟨fun k hk => by rw [ha (500 + k) (Or.inr (Or.inr ⟨by omega, by omega⟩))]; exact g5.1 k hk, fun k k' hk hk' => by rw [ha (500 + k) (Or.inr (Or.inr ⟨by omega, by omega⟩)), ha (500 + k') (Or.inr (Or.inr ⟨by omega, by omega⟩))]; exact g5.2 k k' hk hk'⟩, fun i hi => by rw [ha (320 + 3 * i + 0) (Or.inr (Or.inl ⟨by omega, by omega⟩)), ha (320 + 3 * i + 1) (Or.inr (Or.inl ⟨by omega, by omega⟩)), ha (320 + 3 * i + 2) (Or.inr (Or.inl ⟨by omega, by omega⟩))]; exact g6 i hi⟩, ?_, ?_, ?_⟩
  · unfold SHs at g1 ⊢
    rw [e 5 (by omega), e 0 (by omega), e 10 (by omega), e 12 (by omega), e 11 (by omega), e 13 (by omega), e 14 (by omega)]
    exact g1
  · obtain ⟨h1, h2, h3, h4, h5⟩ := hI
    refine ⟨?_, ?_, fun o ho => ?_, fun p hp => ?_, ?_⟩
    · rw [e 15 (by omega), e 0 (by omega), sm_congr (g' := fun c => rO c0 b v (28 + 3 * c + 1)) (fun c hc => e _ (by omega)), sm_congr (g' := fun o => rO c0 b v (52 + 5 * o + 2)) (fun o ho => e _ (by omega))]
      exact h1
    · rw [e 14 (by omega), sm_congr (g' := fun p => if rO c0 b v (80 + 10 * p + 7) = 3 then rfd (rO c0 b v) (80 + 10 * p) else 0) (fun p hp => by
        show (if rO c0 b' u (80 + 10 * p + 7) = 3 then rfd (rO c0 b' u) (80 + 10 * p) else 0) = _
        rw [e (80 + 10 * p + 7) (by omega), rfd_cong (e _ (by omega)) (e _ (by omega)) (e _ (by omega)) (e _ (by omega))])]
      exact h2
    · rw [e (52 + 5 * o + 3) (by omega), e (52 + 5 * o + 1) (by omega), e (52 + 5 * o + 4) (by omega)]
      exact h3 o ho
    · rw [e (80 + 10 * p + 7) (by omega), e (80 + 10 * p + 8) (by omega)]
      exact h4 p hp
    · rw [e 2 (by omega)]
      exact h5
  · exact hV.cong hn (fun p hp z => by rw [← e (80 + 10 * p + 7) (by omega)]; exact z) (fun p hp => e _ (by omega))
  · intro i hi
    rw [h 79 i (by unfold cD; omega)]
    exact hN i hi
section Fore9
variable {g : GL} {G : RG} {c0 : Int32} {μ v : Mem} {s b E P C O n w t dd nx : Nat}
theorem own_args (hQ : QS c0 μ 0 s b v E P C O n w t dd) : (v 60 b 10 = nI n ∧ n ≤ 24) ∧ (v 60 b 12 = nI w ∧ w ≤ 24) ∧ (v 60 b 11 = nI t ∧ t ≤ 60) ∧ ∀ k, k < n → v 78 b k = 0 ∨ v 78 b k = 1 := by
  obtain ⟨hn, hw, ht, hdd, -, a5, -, -, a10, -, a12, -, a11, -⟩ := hQ.2.2.1.1
  rw [ro_0 (by omega)] at a10 a11 a12
  refine ⟨⟨a10, hn⟩, ⟨a12, hw⟩, ⟨a11, ht⟩, fun k hk => ?_⟩
  have h24 := P_lt hQ hk
  obtain ⟨-, -, hkk, -⟩ := P_row hQ hk
  rw [ro_p3 h24] at hkk
  rcases hkk with ⟨-, -, -, z⟩ | ⟨-, -, z⟩ | ⟨-, -, z⟩
  · exact Or.inl z
  · exact Or.inl z
  · exact Or.inr z
def utk (nx kk n : Nat) (u : Mem) (i : Nat) : Int32 := if kk < n then utl nx kk u i else -1
theorem utk_pos {nx kk n i : Nat} {u : Mem} (hk : kk < n) : utk nx kk n u i = utl nx kk u i := if_pos hk
theorem utk_3 {nx kk n i : Nat} {u ui : Mem} (hp : psN nx i u = some ui) (hk : kk < n) (h0 : utk nx kk n u i < 0) (h3 : ui 74 nx kk = 3) : nI i = utk nx kk n u (i + 1) := by
  unfold utk at h0 ⊢
  rw [if_pos hk] at h0 ⊢
  have e : st9 nx kk u i = ui 74 nx kk := by unfold st9; rw [hp]
  show _ = (if utl nx kk u i < 0 ∧ st9 nx kk u i = 3 then nI i else utl nx kk u i)
  rw [if_pos ⟨h0, e.trans h3⟩]
theorem utk_n {nx kk n i : Nat} {u : Mem} (h : ¬ (utk nx kk n u i < 0) ∨ ¬ kk < n ∨ ∃ ui, psN nx i u = some ui ∧ ui 74 nx kk ≠ 3) : utk nx kk n u i = utk nx kk n u (i + 1) := by
  unfold utk at h ⊢
  by_cases hk : kk < n
  · rw [if_pos hk] at h ⊢
    rw [if_pos hk]
    show _ = (if utl nx kk u i < 0 ∧ st9 nx kk u i = 3 then nI i else utl nx kk u i)
    rw [if_neg]
    rintro ⟨z1, z2⟩
    rcases h with h | h | ⟨ui, h, h2⟩
    · exact h z1
    · exact h hk
    · apply h2
      rw [← z2]
      unfold st9
      rw [h]
  · rw [if_neg hk, if_neg hk]
set_option maxHeartbeats 1000000 in
theorem M_isForetold (d : Nat) (hG : LM vc 0 535 μ G G) (hO : LM (vo b) b (b + 21) v G G) (hb : 535 ≤ b) (hb2 : b + 21 ≤ nx) (hQ : QS c0 μ 0 s b v E P C O n w t dd) (hdd9 : dd ≤ 9000) {kk dy : Nat} (hkk : kk ≤ n) (hdy : dy ≤ 300) : Mt g (d + 8) m_PL_isForetold [.inr (0, off 12 0), .inr (0, off 60 b), .inl (.int (nI kk)), .inl (.int (nI dy))] (G, nx) 21 460 (pLk G nx 21 μ) := by
  obtain ⟨⟨a10, hn⟩, ⟨a12, hw⟩, ⟨a11, ht⟩, hdn⟩ := own_args hQ
  refine Mt.of9 [some (.inr (0, off 12 0)), some (.inr (0, off 60 b)), some (.inl (.int (nI kk))), some (.inl (.int (nI dy))), none, none, none] (by decide +kernel) rfl rfl rfl rfl ?_
  refine ev_aload_n (k0 := 1) rfl d_PL_isForetold_0 ?_
  refine Ev.room (mc := 21 + 0) (ms := 460 + 0) (cv_V (d := d + 7) [] hO vo_0 rfl lk_ProphecyShopLaw_302 (M_Own_copy (d + 6) hO hb2 a10 hn a12 hw a11 ht hdn) rfl rfl d_PL_isForetold_1 ⟨fun w9 M9 hP => ?_, fun E9 M9 hP => by obtain ⟨hv, -⟩ := hP; cases hv⟩) (by omega) (by omega)
  obtain ⟨hw9, p1, u, p2, p3⟩ := hP
  cases hw9
  obtain ⟨G1, nx1⟩ := M9
  replace p1 : nx1 = nx + 21 := p1
  subst p1
  replace p2 : LM (vo nx) nx (nx + 21) u G G1 := p2
  have hQu := hQ.copy p3
  have hG1 : LM vc 0 535 μ G1 G1 := own_vc hG p2 (by omega)
  have hK1 : KB nx G G1 := fun q _ h => p2.2 q (Or.inl h)
  obtain ⟨_, ux, -, -, hps, -⟩ := L_days (j := 0) (by omega) hQu.1 hQu.2.1 hQu.2.2.1 hQu.2.2.2.1 hQu.2.2.2.2.1 301 (by omega)
  suffices HL : ∀ j i (μi : Mem) (Gi : RG) (ui : Mem), i + j = 301 → LM vc 0 535 μi Gi Gi → LM (vo nx) nx (nx + 21) ui Gi Gi → FrL μ μi → KB nx G Gi → psN nx i u = some ui → Ev g (d + 8) m_PL_isForetold 12 [some (.inr (0, off 12 0)), some (.inr (0, off 60 b)), some (.inl (.int (nI kk))), some (.inl (.int (nI dy))), some (.inr (0, off 60 nx)), some (.inl (.int (utk nx kk n u i))), some (.inl (.int (nI i)))] [] (Gi, nx + 21) 0 0 (pLk G nx 21 μ) from ?_
  · refine cw_astoreN 4 [some (.inr (0, off 12 0)), some (.inr (0, off 60 b)), some (.inl (.int (nI kk))), some (.inl (.int (nI dy))), some (.inr (0, off 60 nx)), none, none] d_PL_isForetold_4 rfl rfl rfl ?_
    refine cw_iconst (-1) d_PL_isForetold_6 rfl ?_
    refine cw_istoreN 5 (utk nx kk n u 0) (by unfold utk; split <;> rfl) [some (.inr (0, off 12 0)), some (.inr (0, off 60 b)), some (.inl (.int (nI kk))), some (.inl (.int (nI dy))), some (.inr (0, off 60 nx)), some (.inl (.int (utk nx kk n u 0))), none] d_PL_isForetold_7 rfl rfl rfl ?_
    refine cw_iconst 0 d_PL_isForetold_9 rfl ?_
    refine cw_istoreN 6 (nI 0) rfl [some (.inr (0, off 12 0)), some (.inr (0, off 60 b)), some (.inl (.int (nI kk))), some (.inl (.int (nI dy))), some (.inr (0, off 60 nx)), some (.inl (.int (utk nx kk n u 0))), some (.inl (.int (nI 0)))] d_PL_isForetold_10 rfl rfl rfl ?_
    exact HL 301 0 μ G1 u (by omega) hG1 p2.refl FrL.rf hK1 rfl
  intro j
  induction j with
  | zero =>
    intro i μi Gi ui hi hGi hOi hLi hKi hpi
    have hi9 : i = 301 := by omega
    refine ev_iload (i := 6) rfl d_PL_isForetold_12 ?_
    refine cw_sipush 300 d_PL_isForetold_14 rfl ?_
    refine ev_icmp_gt (tgt := 86) (by decide) d_PL_isForetold_17 (fun _ => ?_) (fun c => absurd (show nI 300 < nI i from nI_lt (by omega) (by omega)) c)
    have hOb : LM (vo b) b (b + 21) v Gi Gi := hKi.own hO hb hb2
    refine ev_iload_n (k0 := 2) rfl d_PL_isForetold_86 ?_
    refine ev_aload_n (k0 := 1) rfl d_PL_isForetold_87 ?_
    refine cv_getN (.inl (.int (v 60 b 10))) hOb vo_0 gn_190 rfl rfl d_PL_isForetold_88 ?_
    rw [a10]
    have KE : ∀ (μ9 : Mem) (G9 : RG), LM vc 0 535 μ9 G9 G9 → FrL μ μ9 → KB nx G G9 → Ev g (d + 8) m_PL_isForetold 104 [some (.inr (0, off 12 0)), some (.inr (0, off 60 b)), some (.inl (.int (nI kk))), some (.inl (.int (nI dy))), some (.inr (0, off 60 nx)), some (.inl (.int (utk nx kk n u i))), some (.inl (.int (nI i)))] [] (G9, nx + 21) 0 0 (pLk G nx 21 μ) := by
      intro μ9 G9 h1 h2 h3
      refine cw_iconst 1 d_PL_isForetold_104 rfl ?_
      refine ev_goto (tgt := 109) (by decide) d_PL_isForetold_105 ?_
      exact ev_ireturn (st := []) rfl rfl d_PL_isForetold_109 ⟨rfl, μ9, h1, h2, h3, by show nx ≤ nx + 21; omega, Nat.le_refl _⟩
    refine ev_icmp_ge (tgt := 104) (by decide) d_PL_isForetold_91 (fun _ => KE μi Gi hGi hLi hKi) (fun c => ?_)
    have hk : kk < n := by
      by_cases z : n ≤ kk
      · exact absurd (nI_le z (by omega)) c
      · omega
    obtain ⟨m9, e1, e2⟩ := P_untilRefunded (hLi.qs hQu) hk (by omega)
    rw [← hi9] at e1
    refine ev_aload_n (k0 := 0) rfl d_PL_isForetold_94 ?_
    refine ev_iload_n (k0 := 2) rfl d_PL_isForetold_95 ?_
    refine Ev.z9 (cv_V [.inl (.int (nI kk))] hGi v_12 rfl lk_ProphecyShopLaw_312 (w_P_daysUntilRefunded (d + 2) hGi (e1)) rfl rfl d_PL_isForetold_96 (aft_rw (fun G2 hG2 => ?_)))
    refine ev_iload (i := 5) rfl d_PL_isForetold_99 ?_
    refine ev_icmp_ne (tgt := 108) (by decide) d_PL_isForetold_101 (fun c => absurd (utk_pos hk).symm c) (fun _ => KE m9 G2 hG2.refl (hLi.tr e2.frl) (fun q a c => (hG2.2 q (Or.inr a)).trans (hKi q a c)))
  | succ j ih =>
    intro i μi Gi ui hi hGi hOi hLi hKi hpi
    have hOb : LM (vo b) b (b + 21) v Gi Gi := hKi.own hO hb hb2
    obtain ⟨u2, hp2⟩ := psN_pre (i := i + 1) hps (by omega)
    have hs2 : f_Own_passes nx ui = some u2 := by
      have z : (psN nx i u).bind (f_Own_passes nx) = some u2 := hp2
      rw [hpi] at z
      exact z
    have K75 : ∀ (μ9 : Mem) (G9 : RG), LM vc 0 535 μ9 G9 G9 → LM (vo nx) nx (nx + 21) ui G9 G9 → FrL μ μ9 → KB nx G G9 → Ev g (d + 8) m_PL_isForetold 75 [some (.inr (0, off 12 0)), some (.inr (0, off 60 b)), some (.inl (.int (nI kk))), some (.inl (.int (nI dy))), some (.inr (0, off 60 nx)), some (.inl (.int (utk nx kk n u (i + 1)))), some (.inl (.int (nI i)))] [] (G9, nx + 21) 0 0 (pLk G nx 21 μ) := by
      intro μ9 G9 h1 h2 h3 h4
      refine ev_aload (i := 4) rfl d_PL_isForetold_75 ?_
      refine Ev.z9 (cv_V [] h2 vo_0 rfl lk_ProphecyShopLaw_309 (w_Own_passes (d + 5) vo_0 h2 (hs2)) rfl rfl d_PL_isForetold_77 (aft_rw (fun G2 hO2 => ?_)))
      refine cw_iincN 6 1 [some (.inr (0, off 12 0)), some (.inr (0, off 60 b)), some (.inl (.int (nI kk))), some (.inl (.int (nI dy))), some (.inr (0, off 60 nx)), some (.inl (.int (utk nx kk n u (i + 1)))), some (.inl (.int (nI (i + 1))))] d_PL_isForetold_80 rfl rfl rfl rfl (by rw [show nI (i + 1) = nI i + 1 from (nI_add _ _).symm]; rfl) ?_
      refine ev_goto (tgt := 12) (by decide) d_PL_isForetold_83 ?_
      exact ih (i + 1) μ9 G2 u2 (by omega) (own_vc h1 hO2 (by omega)) hO2.refl h3 (fun q a c => (hO2.2 q (Or.inl c)).trans (h4 q a c)) hp2
    have K51 : ∀ x, x = utk nx kk n u (i + 1) → Ev g (d + 8) m_PL_isForetold 51 [some (.inr (0, off 12 0)), some (.inr (0, off 60 b)), some (.inl (.int (nI kk))), some (.inl (.int (nI dy))), some (.inr (0, off 60 nx)), some (.inl (.int (utk nx kk n u i))), some (.inl (.int (nI i)))] [.inl (.int x)] (Gi, nx + 21) 0 0 (pLk G nx 21 μ) := by
      rintro _ rfl
      refine cw_istoreN 5 (utk nx kk n u (i + 1)) rfl [some (.inr (0, off 12 0)), some (.inr (0, off 60 b)), some (.inl (.int (nI kk))), some (.inl (.int (nI dy))), some (.inr (0, off 60 nx)), some (.inl (.int (utk nx kk n u (i + 1)))), some (.inl (.int (nI i)))] d_PL_isForetold_51 rfl rfl rfl ?_
      refine ev_iload (i := 6) rfl d_PL_isForetold_53 ?_
      refine ev_iload_n (k0 := 3) rfl d_PL_isForetold_55 ?_
      by_cases e : i = dy
      · subst e
        refine ev_icmp_ne (tgt := 75) (by decide) d_PL_isForetold_56 (fun c => absurd rfl c) (fun _ => ?_)
        obtain ⟨m9, u9, e1, e2, e3⟩ := P_cashAfter (hLi.qs hQu) hdy (by omega)
        obtain rfl : u9 = ui := Option.some.inj (e2.symm.trans hpi)
        refine ev_aload_n (k0 := 0) rfl d_PL_isForetold_59 ?_
        refine ev_iload (i := 6) rfl d_PL_isForetold_60 ?_
        refine Ev.z9 (cv_V [.inl (.int (nI i))] hGi v_12 rfl lk_ProphecyShopLaw_306 (w_P_cashAfter (d + 2) hGi (e1)) rfl rfl d_PL_isForetold_62 (aft_rw (fun G2 hG2 => ?_)))
        have hO2 : LM (vo nx) nx (nx + 21) u9 G2 G2 := vc_own hOi hG2 (by omega)
        refine ev_aload (i := 4) rfl d_PL_isForetold_65 ?_
        refine cv_getN (.inl (.int (u9 60 nx 0))) hO2 vo_0 gn_244 rfl rfl d_PL_isForetold_67 ?_
        exact ev_icmp_eq (tgt := 75) (by decide) d_PL_isForetold_70 (fun _ => K75 m9 G2 hG2.refl hO2 (hLi.tr e3.frl) (fun q a c => (hG2.2 q (Or.inr a)).trans (hKi q a c))) (fun c => absurd rfl c)
      · refine ev_icmp_ne (tgt := 75) (by decide) d_PL_isForetold_56 (fun _ => K75 μi Gi hGi hOi hLi hKi) (fun c => absurd ((nI_eq (by omega) (by omega)).mp c) e)
    have K49 : utk nx kk n u i = utk nx kk n u (i + 1) → Ev g (d + 8) m_PL_isForetold 49 [some (.inr (0, off 12 0)), some (.inr (0, off 60 b)), some (.inl (.int (nI kk))), some (.inl (.int (nI dy))), some (.inr (0, off 60 nx)), some (.inl (.int (utk nx kk n u i))), some (.inl (.int (nI i)))] [] (Gi, nx + 21) 0 0 (pLk G nx 21 μ) := by
      intro e
      refine ev_iload (i := 5) rfl d_PL_isForetold_49 ?_
      exact K51 _ e
    refine ev_iload (i := 6) rfl d_PL_isForetold_12 ?_
    refine cw_sipush 300 d_PL_isForetold_14 rfl ?_
    refine ev_icmp_gt (tgt := 86) (by decide) d_PL_isForetold_17 (fun c => absurd (show nI 300 < nI i from c) (nI_nlt (by omega) (by omega))) (fun _ => ?_)
    refine ev_iload (i := 5) rfl d_PL_isForetold_20 ?_
    refine ev_if_ge (tgt := 49) (by decide) d_PL_isForetold_22 (fun c => K49 (utk_n (Or.inl (Int32.not_lt.mpr c)))) (fun c0 => ?_)
    refine ev_iload_n (k0 := 2) rfl d_PL_isForetold_25 ?_
    refine ev_aload_n (k0 := 1) rfl d_PL_isForetold_26 ?_
    refine cv_getN (.inl (.int (v 60 b 10))) hOb vo_0 gn_190 rfl rfl d_PL_isForetold_27 ?_
    rw [a10]
    refine ev_icmp_ge (tgt := 49) (by decide) d_PL_isForetold_30 (fun c => K49 (utk_n (Or.inr (Or.inl (fun z => nI_ge z (by omega) c))))) (fun c => ?_)
    have hk : kk < n := by
      by_cases z : n ≤ kk
      · exact absurd (nI_le z (by omega)) c
      · omega
    refine ev_aload (i := 4) rfl d_PL_isForetold_33 ?_
    refine cv_getN (.inr (0, off 74 nx)) hOi vo_0 gn_115 rfl rfl d_PL_isForetold_35 ?_
    refine ev_iload_n (k0 := 2) rfl d_PL_isForetold_38 ?_
    refine cv_iald hOi (voK (by decide) (by decide)) rfl rfl (show inb (nI kk) 24 = true from inb_of (by omega) (by omega)) rfl d_PL_isForetold_39 ?_
    rw [nI_clamp (by omega)]
    refine cw_iconst 3 d_PL_isForetold_40 rfl ?_
    refine ev_icmp_ne (tgt := 49) (by decide) d_PL_isForetold_41 (fun c3 => K49 (utk_n (Or.inr (Or.inr ⟨ui, hpi, c3⟩)))) (fun c3 => ?_)
    refine ev_iload (i := 6) rfl d_PL_isForetold_44 ?_
    refine ev_goto (tgt := 51) (by decide) d_PL_isForetold_46 ?_
    exact K51 _ (utk_3 hpi hk (Int32.not_le.mp c0) c3)
end Fore9

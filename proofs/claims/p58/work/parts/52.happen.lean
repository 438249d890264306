/-! The law looks at the happenings. -/
section Ev9
variable {g : GL} {G : RG} {c0 : Int32} {μ v : Mem} {s b E P C O n w t dd nx : Nat}
theorem bs_max {T : Nat → Int32} {k : Nat} : (if T k < (bs T k).2 then (bs T k).2 else T k) = (bs T (k + 1)).2 := by
  show _ = (if (bs T k).2 < T k then (nI k, T k) else bs T k).2
  by_cases h : (bs T k).2 < T k
  · rw [if_pos h, if_neg (fun z => Int32.lt_irrefl (Int32.lt_trans h z))]
  · rw [if_neg h]
    by_cases h2 : T k < (bs T k).2
    · rw [if_pos h2]
    · rw [if_neg h2]
      exact Int32.le_antisymm (Int32.not_lt.mp h) (Int32.not_lt.mp h2)
theorem bs_best {T : Nat → Int32} {k : Nat} : (bs T (k + 1)).1 = if (bs T k).2 < T k then nI k else (bs T k).1 := by
  show (if (bs T k).2 < T k then (nI k, T k) else bs T k).1 = _
  split <;> rfl
theorem M_areEvents (d : Nat) (hG : LM vc 0 535 μ G G) (hO : LM (vo b) b (b + 21) v G G) (hQ : QS c0 μ 0 s b v E P C O n w t dd) (h12 : μ 12 0 3 = nI s) (hP1 : 1 ≤ P) (day : Int32) : Mt g (d + 7) m_PL_areEvents [.inr (0, off 12 0), .inr (0, off 60 b), .inl (.int day)] (G, nx) 0 0 (pRO (rI 1) (G, nx)) := by
  obtain ⟨hs2, hE6, hP6, hC8, -, ⟨-, a6⟩, ⟨-, a7⟩, -⟩ := hQ.2.1
  obtain ⟨hn, hw, ht, hdd, -, a5, -, -, -, -, a12, -, a11, -⟩ := hQ.2.2.1.1
  rw [ro_0 (by omega)] at a6 a7
  have hN : NI v b t := hQ.2.2.2.2.2
  generalize hT : (fun k => tot (rO c0 b v) (nI k) t E) = T
  refine Mt.of9 [some (.inr (0, off 12 0)), some (.inr (0, off 60 b)), some (.inl (.int day)), none, none, none, none, none] (by decide +kernel) rfl rfl rfl rfl ?_
  refine cw_iconst 0 d_PL_areEvents_0 rfl ?_
  refine cw_istoreN_n 3 ((bs T 0).1) rfl [some (.inr (0, off 12 0)), some (.inr (0, off 60 b)), some (.inl (.int day)), some (.inl (.int ((bs T 0).1))), none, none, none, none] d_PL_areEvents_1 rfl rfl rfl ?_
  refine cw_iconst 0 d_PL_areEvents_2 rfl ?_
  refine cw_istoreN 4 ((bs T 0).2) rfl [some (.inr (0, off 12 0)), some (.inr (0, off 60 b)), some (.inl (.int day)), some (.inl (.int ((bs T 0).1))), some (.inl (.int ((bs T 0).2))), none, none, none] d_PL_areEvents_3 rfl rfl rfl ?_
  refine cw_iconst 0 d_PL_areEvents_5 rfl ?_
  refine cw_istoreN 5 (nI 0) rfl [some (.inr (0, off 12 0)), some (.inr (0, off 60 b)), some (.inl (.int day)), some (.inl (.int ((bs T 0).1))), some (.inl (.int ((bs T 0).2))), some (.inl (.int (nI 0))), none, none] d_PL_areEvents_6 rfl rfl rfl ?_
  suffices HH : ∀ j k, k + j = P → Ev g (d + 7) m_PL_areEvents 8 [some (.inr (0, off 12 0)), some (.inr (0, off 60 b)), some (.inl (.int day)), some (.inl (.int ((bs T k).1))), some (.inl (.int ((bs T k).2))), some (.inl (.int (nI k))), none, none] [] (G, nx) 0 0 (pRO (rI 1) (G, nx)) from HH P 0 (by omega)
  intro j
  induction j with
  | zero =>
    intro k hk
    refine ev_iload (i := 5) rfl d_PL_areEvents_8 ?_
    refine ev_aload_n (k0 := 1) rfl d_PL_areEvents_10 ?_
    refine cv_getN (.inl (.int (v 60 b 7))) hO vo_0 gn_162 rfl rfl d_PL_areEvents_11 ?_
    rw [a7]
    refine ev_icmp_ge (tgt := 149) (by decide) d_PL_areEvents_14 (fun _ => ?_) (fun c => absurd (nI_le (show P ≤ k by omega) (by omega)) c)
    refine ev_aload_n (k0 := 0) rfl d_PL_areEvents_149 ?_
    refine Ev.z9 (cv_V [] hG v_12 rfl lk_ProphecyShopLaw_187 (w_P_liveliestPlace (d + 4) hG (P_liveliest h12 hQ hP1)) rfl rfl d_PL_areEvents_150 (aft_ro ?_))
    rw [show k = P by omega, hT]
    refine ev_iload_n (k0 := 3) rfl d_PL_areEvents_153 ?_
    refine ev_icmp_ne (tgt := 161) (by decide) d_PL_areEvents_154 (fun c => absurd rfl c) (fun _ => ?_)
    refine cw_iconst 1 d_PL_areEvents_157 rfl ?_
    refine ev_goto (tgt := 162) (by decide) d_PL_areEvents_158 ?_
    exact ev_ireturn (st := []) rfl rfl d_PL_areEvents_162 ⟨rfl, rfl⟩
  | succ j ih =>
    intro k hk
    refine ev_iload (i := 5) rfl d_PL_areEvents_8 ?_
    refine ev_aload_n (k0 := 1) rfl d_PL_areEvents_10 ?_
    refine cv_getN (.inl (.int (v 60 b 7))) hO vo_0 gn_162 rfl rfl d_PL_areEvents_11 ?_
    rw [a7]
    refine ev_icmp_ge (tgt := 149) (by decide) d_PL_areEvents_14 (fun c => absurd c (nI_ge (show k < P by omega) (by omega))) (fun _ => ?_)
    refine cw_iconst 0 d_PL_areEvents_17 rfl ?_
    refine cw_istoreN 6 (sm (fun e => nI (hap (rO c0 b v) (nI e) (nI k) t)) 0) rfl [some (.inr (0, off 12 0)), some (.inr (0, off 60 b)), some (.inl (.int day)), some (.inl (.int ((bs T k).1))), some (.inl (.int ((bs T k).2))), some (.inl (.int (nI k))), some (.inl (.int (sm (fun e => nI (hap (rO c0 b v) (nI e) (nI k) t)) 0))), none] d_PL_areEvents_18 rfl rfl rfl ?_
    refine cw_iconst 0 d_PL_areEvents_20 rfl ?_
    refine cw_istoreN 7 (nI 0) rfl [some (.inr (0, off 12 0)), some (.inr (0, off 60 b)), some (.inl (.int day)), some (.inl (.int ((bs T k).1))), some (.inl (.int ((bs T k).2))), some (.inl (.int (nI k))), some (.inl (.int (sm (fun e => nI (hap (rO c0 b v) (nI e) (nI k) t)) 0))), some (.inl (.int (nI 0)))] d_PL_areEvents_21 rfl rfl rfl ?_
    suffices HI : ∀ j2 e, e + j2 = E → Ev g (d + 7) m_PL_areEvents 23 [some (.inr (0, off 12 0)), some (.inr (0, off 60 b)), some (.inl (.int day)), some (.inl (.int ((bs T k).1))), some (.inl (.int ((bs T k).2))), some (.inl (.int (nI k))), some (.inl (.int (sm (fun e => nI (hap (rO c0 b v) (nI e) (nI k) t)) e))), some (.inl (.int (nI e)))] [] (G, nx) 0 0 (pRO (rI 1) (G, nx)) from HI E 0 (by omega)
    intro j2
    induction j2 with
    | zero =>
      intro e he
      obtain rfl : e = E := by omega
      refine ev_iload (i := 7) rfl d_PL_areEvents_23 ?_
      refine ev_aload_n (k0 := 1) rfl d_PL_areEvents_25 ?_
      refine cv_getN (.inl (.int (v 60 b 6))) hO vo_0 gn_165 rfl rfl d_PL_areEvents_26 ?_
      rw [a6]
      refine ev_icmp_ge (tgt := 120) (by decide) d_PL_areEvents_29 (fun _ => ?_) (fun c => absurd (nI_le (Nat.le_refl _) (by omega)) c)
      have hTk : sm (fun e => nI (hap (rO c0 b v) (nI e) (nI k) t)) e = T k := by rw [← hT]; rfl
      rw [hTk]
      refine ev_iload (i := 6) rfl d_PL_areEvents_120 ?_
      refine ev_iload (i := 4) rfl d_PL_areEvents_122 ?_
      have K134 : Ev g (d + 7) m_PL_areEvents 134 [some (.inr (0, off 12 0)), some (.inr (0, off 60 b)), some (.inl (.int day)), some (.inl (.int ((bs T (k + 1)).1))), some (.inl (.int ((bs T k).2))), some (.inl (.int (nI k))), some (.inl (.int (T k))), some (.inl (.int (nI e)))] [] (G, nx) 0 0 (pRO (rI 1) (G, nx)) := by
        refine ev_iload (i := 6) rfl d_PL_areEvents_134 ?_
        refine ev_iload (i := 4) rfl d_PL_areEvents_136 ?_
        refine ev_mmax (Nat.le_of_ble_eq_true rfl) mm_182 d_PL_areEvents_138 ?_
        rw [bs_max]
        refine cw_istoreN 4 ((bs T (k + 1)).2) rfl [some (.inr (0, off 12 0)), some (.inr (0, off 60 b)), some (.inl (.int day)), some (.inl (.int ((bs T (k + 1)).1))), some (.inl (.int ((bs T (k + 1)).2))), some (.inl (.int (nI k))), some (.inl (.int (T k))), some (.inl (.int (nI e)))] d_PL_areEvents_141 rfl rfl rfl ?_
        refine cw_iincN 5 1 [some (.inr (0, off 12 0)), some (.inr (0, off 60 b)), some (.inl (.int day)), some (.inl (.int ((bs T (k + 1)).1))), some (.inl (.int ((bs T (k + 1)).2))), some (.inl (.int (nI (k + 1)))), some (.inl (.int (T k))), some (.inl (.int (nI e)))] d_PL_areEvents_143 rfl rfl rfl rfl (by rw [show nI (k + 1) = nI k + 1 from (nI_add _ _).symm]; rfl) ?_
        refine ev_goto (tgt := 8) (by decide) d_PL_areEvents_146 ?_
        refine Ev.sub (ls' := [some (.inr (0, off 12 0)), some (.inr (0, off 60 b)), some (.inl (.int day)), some (.inl (.int ((bs T (k + 1)).1))), some (.inl (.int ((bs T (k + 1)).2))), some (.inl (.int (nI (k + 1)))), none, none]) (LSb.s (LSb.s (LSb.s (LSb.s (LSb.s (LSb.s (LSb.n (LSb.n LSb.z)))))))) ?_
        exact ih (k + 1) (by omega)
      refine ev_icmp_le (tgt := 132) (by decide) d_PL_areEvents_124 (fun cb => ?_) (fun cb => ?_)
      · refine ev_iload_n (k0 := 3) rfl d_PL_areEvents_132 ?_
        refine cw_istoreN_n 3 ((bs T (k + 1)).1) (by rw [bs_best, if_neg (Int32.not_lt.mpr cb)]) [some (.inr (0, off 12 0)), some (.inr (0, off 60 b)), some (.inl (.int day)), some (.inl (.int ((bs T (k + 1)).1))), some (.inl (.int ((bs T k).2))), some (.inl (.int (nI k))), some (.inl (.int (T k))), some (.inl (.int (nI e)))] d_PL_areEvents_133 rfl rfl rfl ?_
        exact K134
      · refine ev_iload (i := 5) rfl d_PL_areEvents_127 ?_
        refine ev_goto (tgt := 133) (by decide) d_PL_areEvents_129 ?_
        refine cw_istoreN_n 3 ((bs T (k + 1)).1) (by rw [bs_best, if_pos (Int32.not_le.mp cb)]) [some (.inr (0, off 12 0)), some (.inr (0, off 60 b)), some (.inl (.int day)), some (.inl (.int ((bs T (k + 1)).1))), some (.inl (.int ((bs T k).2))), some (.inl (.int (nI k))), some (.inl (.int (T k))), some (.inl (.int (nI e)))] d_PL_areEvents_133 rfl rfl rfl ?_
        exact K134
    | succ j2 ih2 =>
      intro e he
      refine ev_iload (i := 7) rfl d_PL_areEvents_23 ?_
      refine ev_aload_n (k0 := 1) rfl d_PL_areEvents_25 ?_
      refine cv_getN (.inl (.int (v 60 b 6))) hO vo_0 gn_165 rfl rfl d_PL_areEvents_26 ?_
      rw [a6]
      refine ev_icmp_ge (tgt := 120) (by decide) d_PL_areEvents_29 (fun c => absurd c (nI_ge (show e < E by omega) (by omega))) (fun _ => ?_)
      refine ev_iload (i := 6) rfl d_PL_areEvents_32 ?_
      refine ev_aload_n (k0 := 1) rfl d_PL_areEvents_34 ?_
      refine ev_iload (i := 7) rfl d_PL_areEvents_35 ?_
      refine ev_iload (i := 5) rfl d_PL_areEvents_37 ?_
      refine Ev.z9 (cv_V [.inl (.int (nI e)), .inl (.int (nI k))] hO vo_0 rfl lk_ProphecyShopLaw_168 (w_Own_times (d + 6) vo_0 hO (O_times (by omega) (by omega) a11 ht hN)) rfl rfl d_PL_areEvents_39 (aft_ro ?_))
      refine ev_iadd d_PL_areEvents_42 ?_
      refine cw_istoreN 6 (sm (fun e => nI (hap (rO c0 b v) (nI e) (nI k) t)) (e + 1)) rfl [some (.inr (0, off 12 0)), some (.inr (0, off 60 b)), some (.inl (.int day)), some (.inl (.int ((bs T k).1))), some (.inl (.int ((bs T k).2))), some (.inl (.int (nI k))), some (.inl (.int (sm (fun e => nI (hap (rO c0 b v) (nI e) (nI k) t)) (e + 1)))), some (.inl (.int (nI e)))] d_PL_areEvents_43 rfl rfl rfl ?_
      refine ev_aload_n (k0 := 0) rfl d_PL_areEvents_45 ?_
      refine ev_iload (i := 7) rfl d_PL_areEvents_46 ?_
      refine ev_iload (i := 5) rfl d_PL_areEvents_48 ?_
      refine Ev.z9 (cv_V [.inl (.int (nI e)), .inl (.int (nI k))] hG v_12 rfl lk_ProphecyShopLaw_172 (w_P_timesHappened (d + 5) hG (P_times h12 hQ (by omega) (by omega))) rfl rfl d_PL_areEvents_50 (aft_ro ?_))
      refine ev_aload_n (k0 := 1) rfl d_PL_areEvents_53 ?_
      refine ev_iload (i := 7) rfl d_PL_areEvents_54 ?_
      refine ev_iload (i := 5) rfl d_PL_areEvents_56 ?_
      refine Ev.z9 (cv_V [.inl (.int (nI e)), .inl (.int (nI k))] hO vo_0 rfl lk_ProphecyShopLaw_168 (w_Own_times (d + 6) vo_0 hO (O_times (by omega) (by omega) a11 ht hN)) rfl rfl d_PL_areEvents_58 (aft_ro ?_))
      refine ev_icmp_ne (tgt := 112) (by decide) d_PL_areEvents_61 (fun c => absurd rfl c) (fun _ => ?_)
      refine ev_aload_n (k0 := 0) rfl d_PL_areEvents_64 ?_
      refine ev_iload (i := 7) rfl d_PL_areEvents_65 ?_
      refine ev_iload (i := 5) rfl d_PL_areEvents_67 ?_
      refine ev_aload_n (k0 := 1) rfl d_PL_areEvents_69 ?_
      refine cv_getN (.inl (.int (v 60 b 5))) hO vo_0 gn_151 rfl rfl d_PL_areEvents_70 ?_
      refine Ev.z9 (cv_V [.inl (.int (nI e)), .inl (.int (nI k)), .inl (.int (v 60 b 5))] hG v_12 rfl lk_ProphecyShopLaw_175 (w_P_hasHappened (d + 5) hG (P_hasHappened h12 hQ (by omega) (by omega))) rfl rfl d_PL_areEvents_73 (aft_ro ?_))
      refine ev_aload_n (k0 := 1) rfl d_PL_areEvents_76 ?_
      refine ev_iload (i := 7) rfl d_PL_areEvents_77 ?_
      refine ev_iload (i := 5) rfl d_PL_areEvents_79 ?_
      refine ev_aload_n (k0 := 1) rfl d_PL_areEvents_81 ?_
      refine cv_getN (.inl (.int (v 60 b 5))) hO vo_0 gn_151 rfl rfl d_PL_areEvents_82 ?_
      refine Ev.z9 (cv_V [.inl (.int (nI e)), .inl (.int (nI k)), .inl (.int (v 60 b 5))] hO vo_0 rfl lk_ProphecyShopLaw_179 (w_Own_has (d + 6) vo_0 hO (O_has (by omega) (by omega) a11 ht hN)) rfl rfl d_PL_areEvents_85 (aft_ro ?_))
      refine ev_icmp_ne (tgt := 112) (by decide) d_PL_areEvents_88 (fun c => absurd rfl c) (fun _ => ?_)
      refine ev_aload_n (k0 := 0) rfl d_PL_areEvents_91 ?_
      refine ev_iload (i := 7) rfl d_PL_areEvents_92 ?_
      refine ev_iload (i := 5) rfl d_PL_areEvents_94 ?_
      refine ev_iload_n (k0 := 2) rfl d_PL_areEvents_96 ?_
      refine Ev.z9 (cv_V [.inl (.int (nI e)), .inl (.int (nI k)), .inl (.int day)] hG v_12 rfl lk_ProphecyShopLaw_175 (w_P_hasHappened (d + 5) hG (P_hasHappened h12 hQ (by omega) (by omega))) rfl rfl d_PL_areEvents_97 (aft_ro ?_))
      refine ev_aload_n (k0 := 1) rfl d_PL_areEvents_100 ?_
      refine ev_iload (i := 7) rfl d_PL_areEvents_101 ?_
      refine ev_iload (i := 5) rfl d_PL_areEvents_103 ?_
      refine ev_iload_n (k0 := 2) rfl d_PL_areEvents_105 ?_
      refine Ev.z9 (cv_V [.inl (.int (nI e)), .inl (.int (nI k)), .inl (.int day)] hO vo_0 rfl lk_ProphecyShopLaw_179 (w_Own_has (d + 6) vo_0 hO (O_has (by omega) (by omega) a11 ht hN)) rfl rfl d_PL_areEvents_106 (aft_ro ?_))
      refine ev_icmp_eq (tgt := 114) (by decide) d_PL_areEvents_109 (fun _ => ?_) (fun c => absurd rfl c)
      refine cw_iincN 7 1 [some (.inr (0, off 12 0)), some (.inr (0, off 60 b)), some (.inl (.int day)), some (.inl (.int ((bs T k).1))), some (.inl (.int ((bs T k).2))), some (.inl (.int (nI k))), some (.inl (.int (sm (fun e => nI (hap (rO c0 b v) (nI e) (nI k) t)) (e + 1)))), some (.inl (.int (nI (e + 1))))] d_PL_areEvents_114 rfl rfl rfl rfl (by rw [show nI (e + 1) = nI e + 1 from (nI_add _ _).symm]; rfl) ?_
      refine ev_goto (tgt := 23) (by decide) d_PL_areEvents_117 ?_
      exact ih2 (e + 1) (by omega)
end Ev9

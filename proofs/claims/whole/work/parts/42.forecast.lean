/-! The forecasts. -/
section Fore
variable {μ ν : Mem} {s E P C O n w t dd h L : Nat} {π : Nat → Nat}
theorem R_tries : f_R_tries ν = some (cpM ν 41 0 40 0 524) := by
  unfold f_R_tries
  rw [it_cp ν 41 0 40 0 524 (Or.inl (by omega)) (by omega) (fun i hi => ?_) (fun m => ?_), bind_s]
  · show s_R_tries_2 (nI i) (cpM ν 41 0 40 0 i) = _
    unfold s_R_tries_2
    rw [if_neg (gl_524 hi), chk_of (inb_of hi (by omega)), chk_of (inb_of hi (by omega)), nI_clamp (by omega), nm_9, nI_1, Nat.zero_add]
  · show s_R_tries_2 (nI 524) m = _
    unfold s_R_tries_2
    rw [if_pos (lg_524 (Nat.le_refl _) (by omega))]
theorem R_back (x : Int32) : f_R_back x ν = some (x, cpM ν 40 0 41 0 524) := by
  unfold f_R_back
  rw [it_cp ν 40 0 41 0 524 (Or.inl (by omega)) (by omega) (fun i hi => ?_) (fun m => ?_), bind_s]
  · show s_R_back_2 x (nI i) (cpM ν 40 0 41 0 i) = _
    unfold s_R_back_2
    rw [if_neg (gl_524 hi), chk_of (inb_of hi (by omega)), chk_of (inb_of hi (by omega)), nI_clamp (by omega), nm_9, nI_1, Nat.zero_add]
  · show s_R_back_2 x (nI 524) m = _
    unfold s_R_back_2
    rw [if_pos (lg_524 (Nat.le_refl _) (by omega))]
theorem GRp.fore {m v : Mem} (H : GRp μ ν s E P C O n w t dd h π L) (hm : ∀ K i, ¬ inS 1 K i → m K i = μ K i) (hK : ∀ K, K ≠ 40 → K ≠ 41 → K ≠ 13 → v K = ν K) (h13 : ∀ f, f ≠ 7 → v 13 0 f = ν 13 0 f) (ha : ∀ k, k < 524 → v 40 0 k = ν 40 0 k) : GRp m v s E P C O n w t dd h π L := by
  obtain ⟨a1, a2, a3, a4, a5, a6, a7, a8, a9, a10⟩ := H
  have hC : C ≤ 8 := a3.2.2.2.1
  have hO : O ≤ 5 := a3.2.2.2.2.1
  have mS : ∀ K, setK K → m K = μ K := fun K q => by
    funext i
    exact hm K i (by unfold inS; unfold setK at q; omega)
  refine ⟨?_, ?_, (a3.mem mS).cong (fun k q => ha k (by unfold dynI at q; omega)), ?_, a5, ?_, ?_, ?_, ?_, ?_⟩
  · rw [hm 12 0 (by unfold inS; omega)]; exact a1
  · rw [hm 9 0 (by unfold inS; omega)]; exact a2
  · exact a4.cong ⟨hm _ _ (by unfold inS; omega), fun p hp => hm _ _ (by unfold inS; omega), fun o ho => hm _ _ (by unfold inS; omega), hm _ _ (by unfold inS; omega), hm _ _ (by unfold inS; omega), hm _ _ (by unfold inS; omega), hm _ _ (by unfold inS; omega), hm _ _ (by unfold inS; omega)⟩ ha hC hO
  · exact a6.fr mS (fun j K i' j1 j2 q => hm K i' (by unfold inS at q ⊢; omega)) (by rw [hm 2 0 (by unfold inS; omega)]) (hm 34 0 (by unfold inS; omega)) (by rw [hK 43 (by omega) (by omega) (by omega)]) (h13 6 (by omega))
  · exact a7.fr mS (fun j K i j1 j2 q => hm K i (by unfold inS at q ⊢; omega)) (hm 36 0 (by unfold inS; omega)) (by rw [hK 44 (by omega) (by omega) (by omega)]) (by rw [hK 45 (by omega) (by omega) (by omega)])
  · exact a8.fr (hm 11 0 (by unfold inS; omega)) (hm 20 0 (by unfold inS; omega)) (h13 9 (by omega)) (by rw [hK 46 (by omega) (by omega) (by omega)])
  · rw [hm 12 0 (by unfold inS; omega), h13 10 (by omega), h13 11 (by omega)]; exact a9
  · rw [h13 22 (by omega)]; exact a10
/-- behind a forecast: nothing of the shop's own has changed -/
theorem GRp.back {m1 m v : Mem} (H : GRp μ ν s E P C O n w t dd h π L) (hc : CPY μ m1 1 0) (F1 : FrC 1 m1 m) (F2 : FrN (cpM (st3 ν 13 0 7 0) 41 0 40 0 524) v) : GRp m (cpM v 40 0 41 0 524) s E P C O n w t dd h π L ∧ m 12 0 12 = μ 12 0 12 ∧ outN ν (cpM v 40 0 41 0 524) ∧ (cpM v 40 0 41 0 524) 13 0 7 = 0 := by
  have hK : ∀ K, K ≠ 40 → K ≠ 41 → K ≠ 13 → cpM v 40 0 41 0 524 K = ν K := fun K k1 k2 k3 => by rw [cpM_K k1, F2.1 K k1, cpM_K k2, st3_K k3]
  have h13 : ∀ f, f ≠ 7 → cpM v 40 0 41 0 524 13 0 f = ν 13 0 f := fun f hf => by rw [cpM_K (by omega), F2.1 13 (by omega), cpM_K (by omega), st3_ua, ua_N hf]
  refine ⟨H.fore (fun K i q => (F1.1 K i q).trans (hc.1 K i q)) hK h13 (fun k hk => ?_), ?_, ⟨hK 49 (by omega) (by omega) (by omega), h13 28 (by omega)⟩, ?_⟩
  · have e1 := cpM_in (μ := v) (K1 := 40) (b1 := 0) (K2 := 41) (b2 := 0) (n := 524) hk
    have e2 := cpM_in (μ := st3 ν 13 0 7 0) (K1 := 41) (b1 := 0) (K2 := 40) (b2 := 0) (n := 524) hk
    rw [Nat.zero_add] at e1 e2
    rw [e1, F2.1 41 (by omega), e2, st3_K (by omega)]
  · rw [F1.1 12 0 (by unfold inS; omega), hc.1 12 0 (by unfold inS; omega)]
  · rw [cpM_K (by omega), F2.1 13 (by omega), cpM_K (by omega)]; exact th0
theorem GRp.try (H : GRp μ ν s E P C O n w t dd h π L) : ∃ m1, f_Shop_copyFrom 1 0 μ = some m1 ∧ CPY μ m1 1 0 ∧ m1 9 1 0 = nI s ∧ ST m1 s ((cpM (st3 ν 13 0 7 0) 41 0 40 0 524) 40 0) E P C O ∧ SH m1 1 ((cpM (st3 ν 13 0 7 0) 41 0 40 0 524) 40 0) E P C O n w t dd := by
  obtain ⟨a1, a2, a3, a4, a5, a6, a7, a8, a9, a10⟩ := H
  obtain ⟨m1, e1, hc⟩ := C_copy (μ := μ) (j1 := 1) (j2 := 0) (s := s) (by omega) a2 a3.1 a4.out
  have e40 : (cpM (st3 ν 13 0 7 0) 41 0 40 0 524) 40 = ν 40 := by rw [cpM_K (by omega), st3_K (by omega)]
  refine ⟨m1, e1, hc, (hc.2.1 0 (Or.inl rfl)).trans a2, ?_, ?_⟩
  · rw [e40]
    exact a3.mem (fun K q => by funext i; exact hc.1 K i (by unfold inS; unfold setK at q; omega))
  · rw [e40]; exact a4.cpy hc a3.2.2.2.1 a3.2.2.2.2.1
theorem wi_ns {x : Int32} {a b : Int32} (h : wi x a b ≠ 1) : wi x a b = 0 := (wi_01 x a b).resolve_right h
theorem T_cashAfter (hG : GR μ ν) (x : Int32) : ChOK μ ν [(xIAE, 1)] (f_P_cashAfter x μ) (f_R_cashAfter x ν) := by
  rcases wi_01 x 0 300 with e0 | e1
  · refine T_noIx hG ?_ ?_ (List.mem_singleton.mpr rfl)
    · unfold f_P_cashAfter
      rw [C_within, bind_s, if_pos e0]
    · unfold f_R_cashAfter
      rw [nm_9, R_within, bind_s, e0, right_0 th0 (by decide), bind_s, if_pos rfl, snd_, th_th]
  · obtain ⟨s, E, P, C, O, n, w, t, dd, h, π, L, H⟩ := hG
    obtain ⟨d, -, hd2, rfl⟩ := wi_1 (a := 0) (b := 300) (by omega) (by omega) e1
    have hdd : dd ≤ 9999 := H.2.2.2.2.1
    obtain ⟨m1, c1, hc, c0, cT, cS⟩ := H.try
    obtain ⟨m, v, w', e2, e3, hS, F1, F2⟩ := L_days (j := 1) (by omega) c0 cT cS d (by omega) (f2 := fun q : Int32 × Mem => s_R_cashAfter_29 (nI d) q.1 q.2) (fun i v => by show s_R_cashAfter_29 (nI d) (nI i) v = _; unfold s_R_cashAfter_29; rfl)
    obtain ⟨g1, g2, g3, g4⟩ := H.back hc F1 F2
    refine ⟨.inr (m 9 1 2), v 40 0 0, m, _, ?_, ?_, Or.inl ⟨?_, g4⟩, g1.gr, g2, g3⟩
    · unfold f_P_cashAfter
      rw [C_within, bind_s, e1, if_neg (by decide), c1, bind_s, e2, bind_s]
    · unfold f_R_cashAfter
      rw [nm_9, R_within, bind_s, e1, right_1 th0, bind_s, if_neg n1_, snd_, R_tries, bind_s, e3, bind_s, ib_0_524, chk_t, tn_0, R_back, bind_s]
    · rw [hS.1.2.2.2.2.2.2.1]
theorem C_oneDay {m m' : Mem} (h : s_Shop_passDays_7 1 1 (m 9 1 13) 0 m = some (.inl ((0 : Int32) + 1, m'))) : f_Shop_passDays 1 1 m = some (m' 9 1 13 - m 9 1 13, m') := by
  unfold f_Shop_passDays
  rw [nm_9]
  have : it (fun q : Int32 × Mem => s_Shop_passDays_7 1 1 (m 9 1 13) q.1 q.2) LIM (0, m) = some m' := by
    refine it_mono (show 2 ≤ 3000000 by omega) (it_l (n := 1) (s' := ((0 : Int32) + 1, m')) h (it_r (n := 0) ?_))
    show s_Shop_passDays_7 1 1 (m 9 1 13) ((0 : Int32) + 1) m' = _
    unfold s_Shop_passDays_7
    rw [if_pos (by decide)]
  rw [this]
  rfl
theorem T_daysUntilRefunded (hG : GR μ ν) (x : Int32) : ChOK μ ν [(xIOB, 1)] (f_P_daysUntilRefunded x μ) (f_R_daysUntilRefunded x ν) := by
  have hG0 := hG
  obtain ⟨s, E, P, C, O, n, w, t, dd, h, π, L, H⟩ := hG
  have hs := H.2.2.2.1.1
  obtain ⟨hn, -, -, -, -, -, -, s5, a10, -⟩ := hs
  have n10 : (st3 ν 13 0 7 0) 40 0 10 = nI n := by rw [st3_K (by omega)]; exact a10
  rcases ixB_c x (n := n) (by omega) with ⟨e0, -⟩ | ⟨e1, p, hp, rfl⟩
  · refine T_noIx hG0 ?_ ?_ (List.mem_singleton.mpr rfl)
    · unfold f_P_daysUntilRefunded
      rw [C_hasSold s5 hn, bind_s, e0]; rfl
    · unfold f_R_daysUntilRefunded
      rw [nm_9, R_isProphecy n10 (by omega), bind_s, e0, right_0 th0 (by decide), bind_s, if_pos rfl, snd_, th_th]
  · have hdd : dd ≤ 9999 := H.2.2.2.2.1
    obtain ⟨m1, c1, hc, c0, cT, cS⟩ := H.try
    have eC : f_P_daysUntilRefunded (nI p) μ = (it (fun (s : Int32 × Mem) => s_P_daysUntilRefunded_33 (24 * 1 + p) s.1 s.2) LIM ((0, m1))).bind (fun q8 => els q8 (fun r9 => some ((.inr ((-1)), r9))) (fun v => some v)) := by
      unfold f_P_daysUntilRefunded
      rw [C_hasSold s5 hn, bind_s, e1]
      show (f_Shop_copyFrom 1 0 μ).bind _ = _
      rw [c1, bind_s, C_prophecyWith (j := 1) (by exact (cS.1).2.2.2.2.2.2.2.1) hn hp, bind_s, chk_of (decide_eq_true (by omega))]
    have eM : f_R_daysUntilRefunded (nI p) ν = (it (fun (s : Int32 × Mem) => s_R_daysUntilRefunded_26 (nI p) s.1 s.2) LIM ((0, (cpM (st3 ν 13 0 7 0) 41 0 40 0 524)))).bind (fun q5 => els q5 (fun r6 => ((f_R_back (-1) r6)).bind (fun r7 => some ((r7.1, r7.2)))) (fun v => some v)) := by
      unfold f_R_daysUntilRefunded
      rw [nm_9, R_isProphecy n10 (by omega), bind_s, e1, right_1 th0, bind_s, if_neg n1_, snd_, R_tries, bind_s]
    refine it_fr2 (f1 := fun s : Int32 × Mem => s_P_daysUntilRefunded_33 (24 * 1 + p) s.1 s.2) (f2 := fun s : Int32 × Mem => s_R_daysUntilRefunded_26 (nI p) s.1 s.2) (a := (0, m1)) (b := (0, cpM (st3 ν 13 0 7 0) 41 0 40 0 524))
      (fun i a b => ∃ m v w', a = (nI i, m) ∧ b = (nI i, v) ∧ SH m 1 (v 40 0) E P C O n w' t (dd + i) ∧ FrC 1 m1 m ∧ FrN (cpM (st3 ν 13 0 7 0) 41 0 40 0 524) v)
      (fun r1 r2 => (∃ m v, r1 = .inl m ∧ r2 = .inl v ∧ FrC 1 m1 m ∧ FrN (cpM (st3 ν 13 0 7 0) 41 0 40 0 524) v) ∨ ∃ k m v, r1 = .inr (.inr k, m) ∧ r2 = .inr (k, cpM v 40 0 41 0 524) ∧ FrC 1 m1 m ∧ FrN (cpM (st3 ν 13 0 7 0) 41 0 40 0 524) v) 301 0 (by omega) (by omega) ⟨m1, _, w, rfl, rfl, cS, FrC.rf, FrN.rf⟩ ?_ ?_ ?_
    · rintro i hi _ _ ⟨m, v, w', rfl, rfl, hS, F1, F2⟩
      have hr := (hS.2.1 p hp).2.2.2.2.2.2.1
      replace hr : m 5 (24 * 1 + p) 7 = v 40 0 (80 + 10 * p + 7) := hr
      show (∃ a' b', s_P_daysUntilRefunded_33 (24 * 1 + p) (nI i) m = some (.inl a') ∧ s_R_daysUntilRefunded_26 (nI p) (nI i) v = some (.inl b') ∧ _) ∨ ∃ r1 r2, s_P_daysUntilRefunded_33 (24 * 1 + p) (nI i) m = some (.inr r1) ∧ s_R_daysUntilRefunded_26 (nI p) (nI i) v = some (.inr r2) ∧ _
      unfold s_P_daysUntilRefunded_33 s_R_daysUntilRefunded_26
      rw [if_neg (ng_300 (by omega)), if_neg (ng_300 (by omega)), hr, R_of7 (by omega), bind_s]
      by_cases c3 : v 40 0 (80 + 10 * p + 7) = 3
      · right
        rw [if_pos c3, if_pos c3, R_back, bind_s]
        exact ⟨_, _, rfl, rfl, Or.inr ⟨nI i, m, v, rfl, rfl, F1, F2⟩⟩
      · left
        rw [if_neg c3, if_neg c3]
        obtain ⟨m', v', w'', d1, d2, d3, d4, d5⟩ := L_day (j := 1) (by omega) (F1.2.trans c0) (cT.fr F1 F2) hS (by omega) (x1 := 1) (x2 := m 9 1 13) (x3 := 0) (by decide)
        rw [C_oneDay d1, bind_s, d2, bind_s, nI_1]
        exact ⟨_, _, rfl, rfl, m', v', w'', rfl, rfl, d3, F1.tr d4, F2.tr d5⟩
    · rintro _ _ ⟨m, v, w', rfl, rfl, hS, F1, F2⟩
      show ∃ r1 r2, s_P_daysUntilRefunded_33 (24 * 1 + p) (nI 301) m = some (.inr r1) ∧ s_R_daysUntilRefunded_26 (nI p) (nI 301) v = some (.inr r2) ∧ _
      unfold s_P_daysUntilRefunded_33 s_R_daysUntilRefunded_26
      rw [if_pos (gg_300 (by omega) (by omega)), if_pos (gg_300 (by omega) (by omega))]
      exact ⟨_, _, rfl, rfl, Or.inl ⟨m, v, rfl, rfl, F1, F2⟩⟩
    · intro r1 r2 q1 q2 q3
      rw [eC, eM, q1, q2, bind_s, bind_s]
      rcases q3 with ⟨m, v, rfl, rfl, F1, F2⟩ | ⟨k, m, v, rfl, rfl, F1, F2⟩
      · obtain ⟨g1, g2, g3, g4⟩ := H.back hc F1 F2
        rw [els_l, els_l, R_back, bind_s]
        exact ⟨.inr (-1), -1, m, cpM v 40 0 41 0 524, rfl, rfl, Or.inl ⟨rfl, g4⟩, g1.gr, g2, g3⟩
      · obtain ⟨g1, g2, g3, g4⟩ := H.back hc F1 F2
        exact ⟨.inr k, k, m, _, rfl, rfl, Or.inl ⟨rfl, g4⟩, g1.gr, g2, g3⟩
end Fore

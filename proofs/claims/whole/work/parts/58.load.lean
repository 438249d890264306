/-! load. -/
def setI (s K i : Nat) : Prop := ((K = 3 ∨ K = 23) ∧ i / 3 = s) ∨ ((K = 7 ∨ K = 24 ∨ K = 25 ∨ K = 26) ∧ i = s)
theorem ST.mem2 {μ μ' : Mem} {s E P C O : Nat} {a : Nat → Int32} (h : ST μ s a E P C O) (e : ∀ K i, setI s K i → μ' K i = μ K i) : ST μ' s a E P C O := by
  unfold ST at h ⊢
  rw [e 3 (3 * s) (Or.inl ⟨by omega, by omega⟩), e 3 (3 * s + 1) (Or.inl ⟨by omega, by omega⟩), e 3 (3 * s + 2) (Or.inl ⟨by omega, by omega⟩), e 7 s (Or.inr ⟨by omega, rfl⟩), e 23 (3 * s) (Or.inl ⟨by omega, by omega⟩), e 23 (3 * s + 1) (Or.inl ⟨by omega, by omega⟩), e 23 (3 * s + 2) (Or.inl ⟨by omega, by omega⟩), e 24 s (Or.inr ⟨by omega, rfl⟩), e 25 s (Or.inr ⟨by omega, rfl⟩), e 26 s (Or.inr ⟨by omega, rfl⟩)]
  exact h
theorem HS.mem2 {μ μ' : Mem} {j s E P C O : Nat} {a a' : Nat → Int32} (h : HS μ j s a E P C O) (hm : ∀ K i, inS j K i → μ' K i = μ K i) (hk : ∀ K i, setI s K i → μ' K i = μ K i) (ha : ∀ k, k < 524 → a' k = a k) : HS μ' j s a' E P C O := by
  obtain ⟨h0, hT, n, w, t, dd, hd, hS⟩ := h
  have hC : C ≤ 8 := hT.2.2.2.1
  have hO : O ≤ 5 := hT.2.2.2.2.1
  refine ⟨?_, (hT.mem2 hk).cong (fun k q => ha k (by unfold dynI at q; omega)), n, w, t, dd, hd, hS.cong ⟨?_, fun p hp => ?_, fun o ho => ?_, ?_, ?_, ?_, ?_, ?_⟩ ha hC hO⟩
  · rw [hm 9 j (Or.inl ⟨Or.inl rfl, rfl⟩)]; exact h0
  all_goals exact hm _ _ (by unfold inS; omega)
theorem HIS.fr2 {μ μ' ν ν' : Mem} {s E P C O h : Nat} {π : Nat → Nat} (H : HIS μ ν s E P C O h π) (h1 : ∀ K i, setI s K i → μ' K i = μ K i) (h2 : ∀ j K i, 2 ≤ j → j < 10 → inS j K i → μ' K i = μ K i) (h3 : μ' 2 0 1 = μ 2 0 1) (h4 : μ' 34 0 = μ 34 0) (h5 : ν' 43 0 = ν 43 0) (h6 : ν' 13 0 6 = ν 13 0 6) : HIS μ' ν' s E P C O h π := by
  obtain ⟨a1, a2, a3, a4, a5, a6⟩ := H
  refine ⟨a1, h3.trans a2, h6.trans a3, by rw [h4]; exact a4, a5, fun i hi => ?_⟩
  have := a4 i (by omega)
  refine (a6 i hi).mem2 (fun K i' q => h2 (π i) K i' this.2.1 this.2.2 q) h1 (fun k hk => ?_)
  unfold slice
  rw [h5]
theorem SLT.fr2 {μ μ' ν ν' : Mem} {s E P C O : Nat} (H : SLT μ ν s E P C O) (h1 : ∀ K i, setI s K i → μ' K i = μ K i) (h2 : ∀ j K i, 10 ≤ j → j < 12 → inS j K i → μ' K i = μ K i) (h3 : μ' 36 0 = μ 36 0) (h4 : ν' 44 0 = ν 44 0) (h5 : ν' 45 0 = ν 45 0) : SLT μ' ν' s E P C O := by
  intro i hi
  rw [h3, h5]
  rcases H i hi with q | ⟨q1, q2, q3⟩
  · exact Or.inl q
  · refine Or.inr ⟨q1, q2, q3.mem2 (fun K i' q => h2 (10 + i) K i' (by omega) (by omega) q) h1 (fun k hk => ?_)⟩
    unfold slice
    rw [h4]
section Load2
variable {μ ν : Mem}
theorem R_aside : ∃ v, it (fun (q : Int32 × Mem) => s_R_load_7 q.1 q.2) LIM (0, ν) = some v ∧ (∀ K, K ≠ 40 → K ≠ 42 → v K = ν K) ∧ (∀ k, k < 524 → v 42 0 k = ν 40 0 k) ∧ ∀ k, k < 524 → v 40 0 k = 0 := by
  refine it_fr (f := fun (q : Int32 × Mem) => s_R_load_7 q.1 q.2) (s := (0, ν)) (fun i q => ∃ v, q = (nI i, v) ∧ (∀ K, K ≠ 40 → K ≠ 42 → v K = ν K) ∧ (∀ k, k < i → v 42 0 k = ν 40 0 k ∧ v 40 0 k = 0) ∧ ∀ k, i ≤ k → v 40 0 k = ν 40 0 k) (fun v => (∀ K, K ≠ 40 → K ≠ 42 → v K = ν K) ∧ (∀ k, k < 524 → v 42 0 k = ν 40 0 k) ∧ ∀ k, k < 524 → v 40 0 k = 0) 524 0 (by omega) (by omega) ⟨ν, rfl, fun _ _ _ => rfl, fun _ z => absurd z (by omega), fun _ _ => rfl⟩ ?_ ?_ (fun r q1 q2 => ⟨r, q1, q2⟩)
  · rintro i hi _ ⟨v, rfl, c1, c2, c3⟩
    show ∃ s', s_R_load_7 (nI i) v = some (.inl s') ∧ _
    unfold s_R_load_7
    rw [if_neg (gl_524 hi), chk_of (inb_of hi (by omega)), chk_of (inb_of hi (by omega)), nI_clamp (by omega), nm_9, chk_of (inb_of hi (by omega)), nm_9, nI_1]
    refine ⟨_, rfl, _, rfl, fun K a b => by rw [st3_K a, st3_K b]; exact c1 K a b, fun k hk => ?_, fun k hk => ?_⟩
    · by_cases e : k = i
      · subst e
        exact ⟨by rw [st3_K (by omega), st3_ua, ua_S]; exact c3 k (Nat.le_refl _), by rw [st3_ua, ua_S]⟩
      · have := c2 k (by omega)
        exact ⟨by rw [st3_K (by omega), st3_ua, ua_N e]; exact this.1, by rw [st3_ua, ua_N e, st3_K (by omega)]; exact this.2⟩
    · rw [st3_ua, ua_N (by omega), st3_K (by omega)]; exact c3 k (by omega)
  · rintro _ ⟨v, rfl, c1, c2, c3⟩
    show ∃ r, s_R_load_7 (nI 524) v = some (.inr r) ∧ _
    unfold s_R_load_7
    rw [if_pos (lg_524 (Nat.le_refl _) (by omega))]
    exact ⟨v, rfl, c1, fun k hk => (c2 k hk).1, fun k hk => (c2 k hk).2⟩
theorem R_again : it (fun (q : Int32 × Mem) => s_R_load_56 q.1 q.2) LIM (0, ν) = some (cpM ν 40 0 42 0 524) := by
  refine it_cp ν 40 0 42 0 524 (Or.inl (by omega)) (by omega) (fun i hi => ?_) (fun m => ?_)
  · show s_R_load_56 (nI i) (cpM ν 40 0 42 0 i) = _
    unfold s_R_load_56
    rw [if_neg (gl_524 hi), chk_of (inb_of hi (by omega)), chk_of (inb_of hi (by omega)), nI_clamp (by omega), nm_9, nI_1, Nat.zero_add]
  · show s_R_load_56 (nI 524) m = _
    unfold s_R_load_56
    rw [if_pos (lg_524 (Nat.le_refl _) (by omega))]
theorem T_load (hG : GR μ ν) : Ch0 μ ν (f_P_load μ) (f_R_load ν) := by
  obtain ⟨s, E, P, C, O, n, w, t, dd, h, π, L, a1, a2, a3, a4, a5, a6, a7, a8, a9, a10⟩ := hG
  have hs : s < 2 := a3.1
  have hC : C ≤ 8 := a3.2.2.2.1
  have hO : O ≤ 5 := a3.2.2.2.2.1
  obtain ⟨B, hX⟩ := (a8 : TXT μ ν L).tx
  obtain ⟨v0, l1, l2, l3, l4⟩ := R_aside (ν := st3 ν 13 0 7 0)
  have hX0 : TX μ v0 B L := by
    unfold TX
    rw [l2 13 (by omega) (by omega), l2 46 (by omega) (by omega), st3_K (show 46 ≠ 13 by omega), st3_ua, ua_N (by omega)]
    exact hX
  obtain ⟨er, m, v1, v, o1, o2, o3, o4, o5, o6, o7, o8, o9, ⟨f1, f2⟩, o10⟩ := L_open (ν := v0) hs hX0 a1 l4
  generalize hv3 : st3 (st3 (st3 v 13 0 9 0) 13 0 10 er) 13 0 11 (v 13 0 17) = v3
  have e16 : (st3 v 13 0 9 0) 13 0 16 = er := by rw [st3_ua, ua_N (by omega), o4]
  have e17 : (st3 (st3 v 13 0 9 0) 13 0 10 er) 13 0 17 = v 13 0 17 := by rw [st3_ua, ua_N (by omega), st3_ua, ua_N (by omega)]
  have e16' : v3 13 0 16 = er := by rw [← hv3, st3_ua, ua_N (by omega), st3_ua, ua_N (by omega)]; exact e16
  have eW : f_R_isWhole v = if er = 0 then some (1, v3) else some (0, v3) := by
    unfold f_R_isWhole
    rw [nm_9, e16, nm_9, e17, nm_9, hv3, e16']
  have eL : f_R_load ν = (if er = 0 then some ((1 : Int32), v3) else some (0, v3)).bind (fun r5 => if r5.1 = 0 then ((it (fun (s : Int32 × Mem) => s_R_load_56 s.1 s.2) LIM ((0, r5.2))).bind (fun q11 => some ((q11 13 0 10, q11)))) else (nm (st3 r5.2 13 0 6 0) (fun μ6 => chk (inb 0 2) (nm (st3 μ6 45 0 (0 : Int32).toNatClampNeg 0) (fun μ8 => chk (inb 1 2) (nm (st3 μ8 45 0 (1 : Int32).toNatClampNeg 0) (fun μ10 => some ((0, μ10))))))))) := by
    unfold f_R_load
    rw [nm_9, l1, bind_s, o2, bind_s, o3, bind_s, eW]
  generalize hm1 : st3 (st3 m 12 0 10 er) 12 0 11 (m 8 0 5) = m1
  have e5 : (st3 m 12 0 10 er) 8 0 5 = m 8 0 5 := by rw [st3_K (by omega)]
  have eC : f_P_load μ = some (er, m1) := by
    unfold f_P_load
    rw [o1, bind_s, nm_9, fst_, snd_, e5, nm_9, hm1]
  have k1 : ∀ K, K ≠ 12 → m1 K = m K := fun K q => by rw [← hm1, st3_K q, st3_K q]
  have m12 : ∀ f, f ≠ 10 → f ≠ 11 → m1 12 0 f = m 12 0 f := fun f q1 q2 => by rw [← hm1, st3_ua, ua_N q2, st3_ua, ua_N q1]
  have m10 : m1 12 0 10 = er := by rw [← hm1, st3_ua, ua_N (by omega), st3_ua, ua_S]
  have m11 : m1 12 0 11 = m 8 0 5 := by rw [← hm1, st3_ua, ua_S]
  have w10 : v3 13 0 10 = er := by rw [← hv3, st3_ua, ua_N (by omega), st3_ua, ua_S]
  have w11 : v3 13 0 11 = m 8 0 5 := by rw [← hv3, st3_ua, ua_S, o5]
  have w9 : v3 13 0 9 = 0 := by rw [← hv3, st3_ua, ua_N (by omega), st3_ua, ua_N (by omega), st3_ua, ua_S]
  have wf : ∀ f, (f < 9 ∨ 17 < f) → f ≠ 7 → v3 13 0 f = ν 13 0 f := fun f q q7 => by rw [← hv3, st3_ua, ua_N (by omega), st3_ua, ua_N (by omega), st3_ua, ua_N (by omega), f2 f (by omega), l2 13 (by omega) (by omega), st3_ua, ua_N q7]
  have wK : ∀ K, K ≠ 13 → v3 K = v K := fun K q => by rw [← hv3, st3_K q, st3_K q, st3_K q]
  have wKK : ∀ K, K ≠ 13 → K ≠ 40 → K ≠ 42 → v3 K = ν K := fun K q1 q2 q3 => by rw [wK K q1, f1 K q1 q2, l2 K q2 q3, st3_K q1]
  have kT : TXT m1 v3 0 := ⟨by omega, by rw [k1 11 (by omega)]; exact o6, w9, fun i hi => absurd hi (by omega)⟩
  have k12 : m1 12 0 12 = μ 12 0 12 := (m12 12 (by omega) (by omega)).trans (o8 12 (by omega) (by omega))
  -- what stays of the class's kept shops
  have kFO : ∀ K i, K ≠ 8 → K ≠ 11 → K ≠ 36 → K ≠ 2 → K ≠ 12 → ¬ inS 0 K i → ¬ (K = 3 ∧ i / 3 = 1 - s) → ¬ (K = 23 ∧ i / 3 = 1 - s) → ¬ ((K = 7 ∨ K = 24 ∨ K = 25 ∨ K = 26) ∧ i = 1 - s) → m1 K i = μ K i := fun K i b1 b2 b3 b4 b5 b6 b7 b8 b9 => by rw [k1 K b5]; exact o9 K i b1 b2 b3 b4 b5 b6 b7 b8 b9
  rcases o10 with ⟨z, g12, g36, g2, gS⟩ | ⟨z, g3, g4, g2, g36, g9, E', P', C', O', gT, gH⟩
  · rw [if_neg z, bind_s, if_pos rfl, R_again, bind_s] at eL
    generalize hvf : cpM v3 40 0 42 0 524 = vf at eL
    have x13 : vf 13 = v3 13 := by rw [← hvf, cpM_K (by omega)]
    have x40 : ∀ k, k < 524 → vf 40 0 k = ν 40 0 k := fun k hk => by
      have := cpM_in (μ := v3) (K1 := 40) (b1 := 0) (K2 := 42) (b2 := 0) (n := 524) hk
      rw [Nat.zero_add, hvf] at this
      rw [this, wK 42 (by omega), f1 42 (by omega) (by omega), l3 k hk, st3_K (by omega)]
    have xK : ∀ K, K ≠ 13 → K ≠ 40 → K ≠ 42 → vf K = ν K := fun K q1 q2 q3 => by rw [← hvf, cpM_K q2, wKK K q1 q2 q3]
    have kI : ∀ K i, setI s K i → m1 K i = μ K i := fun K i q => by
      unfold setI at q
      exact kFO K i (by omega) (by omega) (by omega) (by omega) (by omega) (by unfold inS; omega) (by omega) (by omega) (by omega)
    have kJ : ∀ j K i, inS j K i → m1 K i = μ K i := fun j K i q => by
      by_cases j0 : inS 0 K i
      · rw [k1 K (by unfold inS at q; omega)]; exact gS K i j0
      · exact kFO K i (by unfold inS at q; omega) (by unfold inS at q; omega) (by unfold inS at q; omega) (by unfold inS at q; omega) (by unfold inS at q; omega) j0 (by unfold inS at q; omega) (by unfold inS at q; omega) (by unfold inS at q; omega)
    refine ⟨er, m1, vf, eC, by rw [eL, x13, w10], GRp.gr (s := s) (E := E) (P := P) (C := C) (O := O) (n := n) (w := w) (t := t) (dd := dd) (h := h) (L := 0) (π := π) ⟨?_, ?_, (a3.mem2 kI).cong (fun k q => x40 k (by unfold dynI at q; omega)), ?_, a5, ?_, ?_, ?_, ?_, ?_⟩, k12, ?_, ?_⟩
    · rw [m12 3 (by omega) (by omega), m12 4 (by omega) (by omega), g12]; exact a1
    · rw [kJ 0 9 0 (by unfold inS; omega)]; exact a2
    · exact a4.cong ⟨kJ 0 _ _ (by unfold inS; omega), fun p hp => kJ 0 _ _ (by unfold inS; omega), fun o ho => kJ 0 _ _ (by unfold inS; omega), kJ 0 _ _ (by unfold inS; omega), kJ 0 _ _ (by unfold inS; omega), kJ 0 _ _ (by unfold inS; omega), kJ 0 _ _ (by unfold inS; omega), kJ 0 _ _ (by unfold inS; omega)⟩ x40 hC hO
    · exact a6.fr2 kI (fun j K i _ _ q => kJ j K i q) (by rw [k1 2 (by omega), g2]) (kFO 34 0 (by omega) (by omega) (by omega) (by omega) (by omega) (by unfold inS; omega) (by omega) (by omega) (by omega)) (by rw [xK 43 (by omega) (by omega) (by omega)]) (by rw [x13]; exact wf 6 (by omega) (by omega))
    · exact a7.fr2 kI (fun j K i _ _ q => kJ j K i q) (by rw [k1 36 (by omega), g36]) (by rw [xK 44 (by omega) (by omega) (by omega)]) (by rw [xK 45 (by omega) (by omega) (by omega)])
    · exact ⟨by omega, by rw [k1 11 (by omega)]; exact o6, by rw [x13]; exact w9, fun i hi => absurd hi (by omega)⟩
    · rw [x13, m10, m11, w10, w11]; exact ⟨rfl, rfl⟩
    · rw [x13]; exact (wf 22 (by omega) (by omega)).trans a10
    · exact xK 49 (by omega) (by omega) (by omega)
    · rw [x13]; exact wf 28 (by omega) (by omega)
  · rw [if_pos z, bind_s, if_neg (by show ¬ (1 : Int32) = 0; decide), snd_, nm_9, ib_0_2, chk_t, tn_0, nm_9, ib_1_2, chk_t, tn_1, nm_9] at eL
    generalize hvf : st3 (st3 (st3 v3 13 0 6 0) 45 0 0 0) 45 0 1 0 = vf at eL
    have x13 : ∀ f, f ≠ 6 → vf 13 0 f = v3 13 0 f := fun f q => by rw [← hvf, st3_K (by omega), st3_K (by omega), st3_ua, ua_N q]
    have x6 : vf 13 0 6 = 0 := by rw [← hvf, st3_K (by omega), st3_K (by omega), st3_ua, ua_S]
    have xK : ∀ K, K ≠ 13 → K ≠ 45 → vf K = v3 K := fun K q1 q2 => by rw [← hvf, st3_K q2, st3_K q2, st3_K q1]
    have x40 : vf 40 = v 40 := by rw [xK 40 (by omega) (by omega), wK 40 (by omega)]
    have x45 : ∀ i, i < 2 → vf 45 0 i = 0 := fun i hi => by
      rw [← hvf, st3_ua]
      by_cases e : i = 1
      · subst e; rw [ua_S]
      · rw [ua_N e, st3_ua]
        obtain rfl : i = 0 := by omega
        rw [ua_S]
    obtain ⟨b1, b2, b3, b4, b5, b6⟩ := a6
    refine ⟨er, m1, vf, eC, by rw [eL, z], GRp.gr (s := 1 - s) (E := E') (P := P') (C := C') (O := O') (n := 0) (w := 0) (t := 0) (dd := 0) (h := 0) (L := 0) (π := π) ⟨?_, ?_, ?_, ?_, by omega, ⟨by omega, ?_, x6, ?_, b5, fun i hi => absurd hi (by omega)⟩, fun i hi => Or.inl ⟨?_, x45 i hi⟩, ?_, ?_, ?_⟩, k12, ?_, ?_⟩
    · rw [m12 3 (by omega) (by omega), m12 4 (by omega) (by omega), show 1 - (1 - s) = s by omega]; exact ⟨g3, g4⟩
    · rw [k1 9 (by omega)]; exact g9
    · rw [x40]; exact gT.mem (fun K q => k1 K (by unfold setK at q; omega))
    · rw [x40]; exact gH.cong ⟨by rw [k1 9 (by omega)], fun p hp => by rw [k1 5 (by omega)], fun o ho => by rw [k1 4 (by omega)], by rw [k1 27 (by omega)], by rw [k1 30 (by omega)], by rw [k1 31 (by omega)], by rw [k1 32 (by omega)], by rw [k1 33 (by omega)]⟩ (fun _ _ => rfl) gT.2.2.2.1 gT.2.2.2.2.1
    · rw [k1 2 (by omega)]; exact g2
    · rw [kFO 34 0 (by omega) (by omega) (by omega) (by omega) (by omega) (by unfold inS; omega) (by omega) (by omega) (by omega)]; exact b4
    · rw [k1 36 (by omega)]; exact g36 i hi
    · exact ⟨by omega, by rw [k1 11 (by omega)]; exact o6, by rw [x13 9 (by omega)]; exact w9, fun i hi => absurd hi (by omega)⟩
    · rw [x13 10 (by omega), x13 11 (by omega), m10, m11, w10, w11]; exact ⟨rfl, rfl⟩
    · rw [x13 22 (by omega)]; exact (wf 22 (by omega) (by omega)).trans a10
    · rw [xK 49 (by omega) (by omega), wKK 49 (by omega) (by omega) (by omega)]
    · rw [x13 28 (by omega)]; exact wf 28 (by omega) (by omega)
end Load2

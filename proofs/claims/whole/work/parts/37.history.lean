/-! What is kept for undo, and the slots. -/
def HS (μ : Mem) (j s : Nat) (a : Nat → Int32) (E P C O : Nat) : Prop := μ 9 j 0 = nI s ∧ ST μ s a E P C O ∧ ∃ n w t dd, dd ≤ 9999 ∧ SH μ j a E P C O n w t dd
def slice (ν : Mem) (K i : Nat) : Nat → Int32 := fun k => ν K 0 (524 * i + k)
def HIS (μ ν : Mem) (s E P C O h : Nat) (π : Nat → Nat) : Prop :=
  h ≤ 8 ∧ μ 2 0 1 = nI h ∧ ν 13 0 6 = nI h ∧ (∀ i, i < 8 → μ 34 0 i = nI (π i) ∧ 2 ≤ π i ∧ π i < 10) ∧ (∀ i i', i < 8 → i' < 8 → π i = π i' → i = i') ∧ ∀ i, i < h → HS μ (π i) s (slice ν 43 i) E P C O
def SLT (μ ν : Mem) (s E P C O : Nat) : Prop := ∀ i, i < 2 → (μ 36 0 i = 0 ∧ ν 45 0 i = 0) ∨ (μ 36 0 i = 1 ∧ ν 45 0 i = 1 ∧ HS μ (10 + i) s (slice ν 44 i) E P C O)
theorem HS.mem {μ μ' : Mem} {j s E P C O : Nat} {a a' : Nat → Int32} (h : HS μ j s a E P C O) (hm : ∀ K i, inS j K i → μ' K i = μ K i) (hk : ∀ K, setK K → μ' K = μ K) (ha : ∀ k, k < 524 → a' k = a k) : HS μ' j s a' E P C O := by
  obtain ⟨h0, hT, n, w, t, dd, hd, hS⟩ := h
  have hC : C ≤ 8 := hT.2.2.2.1
  have hO : O ≤ 5 := hT.2.2.2.2.1
  refine ⟨?_, (hT.mem hk).cong (fun k q => ha k (by unfold dynI at q; omega)), n, w, t, dd, hd, hS.cong ⟨?_, fun p hp => ?_, fun o ho => ?_, ?_, ?_, ?_, ?_, ?_⟩ ha hC hO⟩
  · rw [hm 9 j (Or.inl ⟨Or.inl rfl, rfl⟩)]; exact h0
  all_goals exact hm _ _ (by unfold inS; omega)
/-- only what is kept for undo has changed -/
def Fr2 (μ μ' : Mem) : Prop := ∀ K i, K ≠ 34 → K ≠ 2 → (∀ j, 2 ≤ j → j < 10 → ¬ inS j K i) → μ' K i = μ K i
theorem Fr2.set {μ μ' : Mem} (h : Fr2 μ μ') {K : Nat} (hK : setK K) : μ' K = μ K := by
  funext i
  exact h K i (by unfold setK at hK; omega) (by unfold setK at hK; omega) (fun j _ _ q => by unfold inS at q; unfold setK at hK; omega)
theorem Fr2.shop {μ μ' : Mem} (h : Fr2 μ μ') {j K i : Nat} (hj : j < 2 ∨ 10 ≤ j) (hq : inS j K i) : μ' K i = μ K i :=
  h K i (by unfold inS at hq; omega) (by unfold inS at hq; omega) (fun j' h1 h2 q => by unfold inS at q hq; omega)
theorem HS.fr2 {μ μ' : Mem} {j s E P C O : Nat} {a : Nat → Int32} (h : HS μ j s a E P C O) (hf : Fr2 μ μ') (hj : j < 2 ∨ 10 ≤ j) : HS μ' j s a E P C O := h.mem (fun _ _ q => hf.shop hj q) (fun _ q => hf.set q) (fun _ _ => rfl)
section Hist
variable {μ ν : Mem} {s E P C O n w t dd h : Nat} {π : Nat → Nat}
theorem C_forget (hp : ∀ i, i < 8 → μ 34 0 i = nI (π i) ∧ 2 ≤ π i ∧ π i < 10) : f_History_forgetOldest μ = some (st3 (st3 (shM μ 34 0 0 7) 34 0 7 (μ 34 0 0)) 2 0 1 7) := by
  have hc : ∀ i, i < 8 → (μ 34 0 i).toNatClampNeg = π i := fun i hi => by rw [(hp i hi).1, nI_clamp (by have := (hp i hi).2.2; omega)]
  have hn : ∀ i, i < 8 → Int32.ofNat (π i) = μ 34 0 i := fun i hi => (hp i hi).1.symm
  unfold f_History_forgetOldest
  rw [ib_0_8, chk_t, tn_0, hc 0 (by omega), chk_of (decide_eq_true (by have := (hp 0 (by omega)).2.2; omega))]
  refine it_fr (f := fun q : Int32 × Mem => s_History_forgetOldest_9 (π 0) q.1 q.2) (s := (1, μ)) (fun i q => q = (nI (i + 1), shM μ 34 0 0 i)) (fun q => q = shM μ 34 0 0 7) 7 0 (by omega) (by omega) (by rw [shM_0]; rfl) ?_ ?_ ?_
  · rintro i hi _ rfl
    refine ⟨_, ?_, rfl⟩
    show s_History_forgetOldest_9 (π 0) (nI (i + 1)) (shM μ 34 0 0 i) = _
    unfold s_History_forgetOldest_9
    have e0 : shM μ 34 0 0 i 34 0 (i + 1) = μ 34 0 (i + 1) := by rw [shM_S, shf_out (by omega)]
    have e := shM_st (μ := μ) (K := 34) (j := 0) (b := 0) (i := i)
    rw [Nat.zero_add, e0] at e
    rw [if_neg (gl_8 (by omega)), chk_of (inb_of (by omega) (by omega)), nI_clamp (by omega), e0, hc _ (by omega), chk_of (decide_eq_true (by have := (hp (i + 1) (by omega)).2.2; omega)), show nI (i + 1) - 1 = nI i from nI_pred i, chk_of (inb_of (by omega) (by omega)), nI_clamp (by omega), nm_9, nI_1, hn _ (by omega), e]
  · rintro _ rfl
    refine ⟨_, ?_, rfl⟩
    show s_History_forgetOldest_9 (π 0) (nI 8) (shM μ 34 0 0 7) = _
    unfold s_History_forgetOldest_9
    rw [if_pos (lg_8 (Nat.le_refl _) (by omega))]
  · rintro _ e rfl
    rw [e, bind_s, ib_7_8, chk_t, tn_7, hn 0 (by omega)]
    rfl
theorem R_keeps (hu : ν 13 0 6 = nI h) (hh : h < 8) : f_R_keeps ν = some (st3 (cpM ν 43 (524 * h) 40 0 524) 13 0 6 (nI (h + 1))) := by
  unfold f_R_keeps
  rw [hu, if_neg (by rw [eq_8 (by omega)]; omega), bind_s, it_cp ν 43 (524 * h) 40 0 524 (Or.inl (by omega)) (by omega) (fun i hi => ?_) (fun m => ?_), bind_s, nm_9, cpM_K (by omega), hu, nI_1]
  · show s_R_keeps_52 (nI i) (cpM ν 43 (524 * h) 40 0 i) = _
    unfold s_R_keeps_52
    rw [if_neg (gl_524 hi), chk_of (inb_of hi (by omega)), cpM_K (show 13 ≠ 43 by omega), hu, show (524 : Int32) * nI h + nI i = nI (524 * h + i) by rw [show (524 : Int32) = nI 524 from rfl, pk_mul, nI_add], chk_of (inb_of (by omega) (by omega)), nI_clamp (by omega), nI_clamp (by omega), nm_9, nI_1, Nat.zero_add]
  · show s_R_keeps_52 (nI 524) m = _
    unfold s_R_keeps_52
    rw [if_pos (lg_524 (Nat.le_refl _) (by omega))]
theorem R_keeps8 (hu : ν 13 0 6 = nI 8) : f_R_keeps ν = some (st3 (cpM (st3 (cpM ν 43 0 43 524 3668) 13 0 6 (nI 7)) 43 (524 * 7) 40 0 524) 13 0 6 (nI 8)) := by
  have e1 : it (fun s : Int32 × Mem => s_R_keeps_11 s.1 s.2) LIM (0, ν) = some (cpM ν 43 0 43 524 3668) := by
    refine it_cp ν 43 0 43 524 3668 (Or.inr (by omega)) (by omega) (fun i hi => ?_) (fun m => ?_)
    · show s_R_keeps_11 (nI i) (cpM ν 43 0 43 524 i) = _
      unfold s_R_keeps_11
      rw [if_neg (gl_3668 hi), show nI i + (524 : Int32) = nI (524 + i) by rw [show (524 : Int32) = nI 524 from rfl, nI_add, Nat.add_comm], chk_of (inb_of (by omega) (by omega)), chk_of (inb_of (by omega) (by omega)), nI_clamp (by omega), nI_clamp (by omega), nm_9, nI_1, Nat.zero_add]
    · show s_R_keeps_11 (nI 3668) m = _
      unfold s_R_keeps_11
      rw [if_pos (lg_3668 (Nat.le_refl _) (by omega))]
  have e2 := R_keeps (ν := st3 (cpM ν 43 0 43 524 3668) 13 0 6 (nI 7)) (h := 7) (by rw [st3_ua, ua_S]) (by omega)
  unfold f_R_keeps at e2 ⊢
  have n7 : (st3 (cpM ν 43 0 43 524 3668) 13 0 6 (nI 7)) 13 0 6 = nI 7 := by rw [st3_ua, ua_S]
  rw [n7, if_neg (by decide), bind_s] at e2
  rw [hu, if_pos (show nI 8 = 8 from rfl), e1, bind_s, nm_9, cpM_K (show 13 ≠ 43 by omega), hu, show nI 8 - 1 = nI 7 from nI_pred 7, bind_s]
  exact e2
theorem sl_now {m : Nat} {v : Mem} (hh : m < 8) (k : Nat) (hk : k < 524) : slice (st3 (cpM v 43 (524 * m) 40 0 524) 13 0 6 (nI (m + 1))) 43 m k = v 40 0 k := by
  unfold slice
  rw [st3_K (by omega), cpM_in hk, Nat.zero_add]
theorem sl_old {m i : Nat} {v : Mem} (hi : i < m) (k : Nat) (hk : k < 524) : slice (st3 (cpM v 43 (524 * m) 40 0 524) 13 0 6 (nI (m + 1))) 43 i k = slice v 43 i k := by
  unfold slice
  rw [st3_K (by omega), cpM_out (by omega)]
/-- the shop is kept -/
theorem L_keep {j : Nat} {m : Mem} {b : Nat → Int32} (hj : 2 ≤ j ∧ j < 10) (h0 : m 9 0 0 = nI s) (hT : ST m s b E P C O) (hd : dd ≤ 9999) (H : SH m 0 b E P C O n w t dd) {x : Int32} : ∃ m', f_Shop_copyFrom j 0 m = some m' ∧ HS (st3 m' 2 0 1 x) j s b E P C O ∧ ∀ K i, ¬ inS j K i → m' K i = m K i := by
  have hC : C ≤ 8 := hT.2.2.2.1
  have hO : O ≤ 5 := hT.2.2.2.2.1
  obtain ⟨m', e1, hc⟩ := C_copy (μ := m) (j1 := j) (j2 := 0) (s := s) (by omega) h0 hT.1 H.out
  have hT' : ST m' s b E P C O := hT.mem (fun K hK => by funext i; exact hc.1 K i (by unfold inS; unfold setK at hK; omega))
  have h9 : m' 9 j 0 = nI s := (hc.2.1 0 (Or.inl rfl)).trans h0
  have hh : HS m' j s b E P C O := ⟨h9, hT', n, w, t, dd, hd, H.cpy hc hC hO⟩
  refine ⟨m', e1, hh.mem (fun K i q => ?_) (fun K q => ?_) (fun _ _ => rfl), hc.1⟩
  · rw [st3_K (by unfold inS at q; omega)]
  · rw [st3_K (by unfold setK at q; omega)]
theorem L_record (hH : HIS μ ν s E P C O h π) (h0 : μ 9 0 0 = nI s) (hT : ST μ s (ν 40 0) E P C O) (hd : dd ≤ 9999) (H : SH μ 0 (ν 40 0) E P C O n w t dd) :
    ∃ μ' ν' h' π', f_History_record 0 μ = some μ' ∧ f_R_keeps ν = some ν' ∧ HIS μ' ν' s E P C O h' π' ∧ Fr2 μ μ' ∧ (∀ K, K ≠ 43 → K ≠ 13 → ν' K = ν K) ∧ ∀ f, f ≠ 6 → ν' 13 0 f = ν 13 0 f := by
  obtain ⟨hh, c1, c2, hp, hinj, hs⟩ := hH
  by_cases h8 : h < 8
  · obtain ⟨m', e1, e2, e3⟩ := L_keep (hp h h8).2 h0 hT hd H (x := nI (h + 1))
    refine ⟨st3 m' 2 0 1 (nI (h + 1)), _, h + 1, π, ?_, R_keeps c2 h8, ⟨h8, ?_, ?_, fun i hi => ?_, hinj, fun i hi => ?_⟩, fun K i k1 k2 k3 => ?_, fun K k1 k2 => ?_, fun f hf => ?_⟩
    · unfold f_History_record
      rw [c1, if_pos (ll_8 h8), bind_s, c1, chk_of (inb_of h8 (by omega)), nI_clamp (by omega), (hp h h8).1, nI_clamp (by have := (hp h h8).2; omega), chk_of (decide_eq_true (by have := (hp h h8).2; omega)), e1, bind_s, nm_9, e3 2 0 (by unfold inS; omega), c1, nI_1]
    · rw [st3_ua, ua_S]
    · rw [st3_ua, ua_S]
    · rw [st3_K (by omega), e3 34 0 (by unfold inS; omega)]; exact hp i hi
    · by_cases e : i = h
      · subst e
        exact e2.mem (fun _ _ _ => rfl) (fun _ _ => rfl) (fun k hk => sl_now h8 k hk)
      · have hne : π i ≠ π h := fun z => e (hinj i h (by omega) h8 z)
        refine (hs i (by omega)).mem (fun K i' q => ?_) (fun K q => ?_) (fun k hk => sl_old (by omega) k hk)
        · rw [st3_K (by unfold inS at q; omega)]
          exact e3 K i' (by unfold inS at q ⊢; omega)
        · rw [st3_K (by unfold setK at q; omega)]
          funext i'
          exact e3 K i' (by unfold inS; unfold setK at q; omega)
    · rw [st3_K k2]; exact e3 K i (k3 _ (hp h h8).2.1 (hp h h8).2.2)
    · rw [st3_K k2, cpM_K k1]
    · rw [st3_ua, ua_N hf, cpM_K (by omega)]
  · obtain rfl : h = 8 := by omega
    have eF := C_forget hp
    have p0 := hp 0 (by omega)
    generalize hm : st3 (st3 (shM μ 34 0 0 7) 34 0 7 (μ 34 0 0)) 2 0 1 7 = m at eF
    have mK : ∀ K, K ≠ 34 → K ≠ 2 → m K = μ K := fun K k1 k2 => by rw [← hm, st3_K k2, st3_K k1, shM_K k1]
    have m34 : ∀ i, i < 8 → m 34 0 i = nI (if i < 7 then π (i + 1) else π 0) := fun i hi => by
      rw [← hm, st3_K (by omega), st3_ua]
      by_cases e : i = 7
      · subst e; rw [ua_S, if_neg (by omega)]; exact p0.1
      · rw [ua_N e, shM_S, shf_in (by omega) (by omega), if_pos (by omega)]; exact (hp (i + 1) (by omega)).1
    have m2 : m 2 0 1 = nI 7 := by rw [← hm, st3_ua, ua_S]; rfl
    have hT' : ST m s (ν 40 0) E P C O := hT.mem (fun K q => mK K (by unfold setK at q; omega) (by unfold setK at q; omega))
    have H' : SH m 0 (ν 40 0) E P C O n w t dd := H.cong ⟨by rw [mK 9 (by omega) (by omega)], fun p _ => by rw [mK 5 (by omega) (by omega)], fun o _ => by rw [mK 4 (by omega) (by omega)], by rw [mK 27 (by omega) (by omega)], by rw [mK 30 (by omega) (by omega)], by rw [mK 31 (by omega) (by omega)], by rw [mK 32 (by omega) (by omega)], by rw [mK 33 (by omega) (by omega)]⟩ (fun _ _ => rfl) hT.2.2.2.1 hT.2.2.2.2.1
    obtain ⟨m', e1, e2, e3⟩ := L_keep (j := π 0) p0.2 (by rw [mK 9 (by omega) (by omega)]; exact h0) hT' hd H' (x := nI 8)
    have v40 : (st3 (cpM ν 43 0 43 524 3668) 13 0 6 (nI 7)) 40 = ν 40 := by rw [st3_K (by omega), cpM_K (by omega)]
    refine ⟨st3 m' 2 0 1 (nI 8), _, 8, fun i => if i < 7 then π (i + 1) else π 0, ?_, R_keeps8 c2, ⟨Nat.le_refl _, ?_, ?_, fun i hi => ?_, fun i i' hi hi' => ?_, fun i hi => ?_⟩, fun K i k1 k2 k3 => ?_, fun K k1 k2 => ?_, fun f hf => ?_⟩
    · unfold f_History_record
      have m7 : m 34 0 7 = nI (π 0) := by have := m34 7 (by omega); rwa [if_neg (by omega)] at this
      rw [c1, if_neg (nl_8 (Nat.le_refl _) (by omega)), eF, bind_s, bind_s, m2, chk_of (inb_of (by omega) (by omega)), nI_clamp (by omega), m7, nI_clamp (by omega), chk_of (decide_eq_true (by omega)), e1, bind_s, nm_9, e3 2 0 (by unfold inS; omega), m2, nI_1]
    · rw [st3_ua, ua_S]
    · rw [st3_ua, ua_S]
    · refine ⟨?_, ?_⟩
      · rw [st3_K (by omega), e3 34 0 (by unfold inS; omega)]; exact m34 i hi
      · show 2 ≤ (if i < 7 then π (i + 1) else π 0) ∧ (if i < 7 then π (i + 1) else π 0) < 10
        split
        · exact (hp (i + 1) (by omega)).2
        · exact p0.2
    · show (if i < 7 then π (i + 1) else π 0) = (if i' < 7 then π (i' + 1) else π 0) → _
      intro z
      split at z <;> split at z
      · have := hinj (i + 1) (i' + 1) (by omega) (by omega) z; omega
      · have := hinj (i + 1) 0 (by omega) (by omega) z; omega
      · have := hinj 0 (i' + 1) (by omega) (by omega) z; omega
      · omega
    · show HS _ (if i < 7 then π (i + 1) else π 0) s _ E P C O
      by_cases e : i = 7
      · subst e
        rw [if_neg (by omega)]
        refine e2.mem (fun _ _ _ => rfl) (fun _ _ => rfl) (fun k hk => ?_)
        have := sl_now (m := 7) (v := st3 (cpM ν 43 0 43 524 3668) 13 0 6 (nI 7)) (by omega) k hk
        rw [v40] at this
        exact this
      · rw [if_pos (by omega)]
        have hne : π (i + 1) ≠ π 0 := fun z => by have := hinj (i + 1) 0 (by omega) (by omega) z; omega
        refine (hs (i + 1) (by omega)).mem (fun K i' q => ?_) (fun K q => ?_) (fun k hk => ?_)
        · rw [st3_K (by unfold inS at q; omega), e3 K i' (by unfold inS at q ⊢; omega), mK K (by unfold inS at q; omega) (by unfold inS at q; omega)]
        · rw [st3_K (by unfold setK at q; omega)]
          funext i'
          rw [e3 K i' (by unfold inS; unfold setK at q; omega), mK K (by unfold setK at q; omega) (by unfold setK at q; omega)]
        · have h1 := sl_old (m := 7) (i := i) (v := st3 (cpM ν 43 0 43 524 3668) 13 0 6 (nI 7)) (by omega) k hk
          refine h1.trans ?_
          unfold slice
          rw [st3_K (by omega)]
          have h2 := cpM_in (μ := ν) (K1 := 43) (b1 := 0) (K2 := 43) (b2 := 524) (n := 3668) (i := 524 * i + k) (by omega)
          rw [Nat.zero_add] at h2
          rw [h2]
          congr 1
          omega
    · rw [st3_K k2, e3 K i (k3 _ p0.2.1 p0.2.2), mK K k1 k2]
    · rw [st3_K k2, cpM_K k1, st3_K k2, cpM_K k1]
    · rw [st3_ua, ua_N hf, cpM_K (by omega), st3_ua, ua_N hf, cpM_K (by omega)]
end Hist

/-! What is kept for undo. -/
/-- a shop of the class, and the law's own shop that begins at b -/
def QS (c0 : Int32) (μ : Mem) (j s b : Nat) (v : Mem) (E P C O n w t dd : Nat) : Prop := μ 9 j 0 = nI s ∧ ST μ s (rO c0 b v) E P C O ∧ SH μ j (rO c0 b v) E P C O n w t dd ∧ CI (rO c0 b v) C O n ∧ OVD (rO c0 b v) n dd ∧ NI v b t
def HS (c0 : Int32) (μ : Mem) (j s b : Nat) (v : Mem) (E P C O : Nat) : Prop := ∃ n w t dd, dd ≤ 9999 ∧ QS c0 μ j s b v E P C O n w t dd
/-- h shops are kept: those of the law's own with the numbers K - h .. -/
def HIS (c0 : Int32) (μ : Mem) (s E P C O h K : Nat) (pl : Nat → Nat × Mem) : Prop :=
  h ≤ 8 ∧ h ≤ K ∧ μ 2 0 1 = nI h ∧ ∃ π : Nat → Nat, (∀ i, i < 8 → μ 34 0 i = nI (π i) ∧ 2 ≤ π i ∧ π i < 10) ∧ (∀ i i', i < 8 → i' < 8 → π i = π i' → i = i') ∧ ∀ i, i < h → HS c0 μ (π i) s (pl (K - h + i)).1 (pl (K - h + i)).2 E P C O
theorem QS.mem {c0 : Int32} {μ μ' v : Mem} {j s b E P C O n w t dd : Nat} (h : QS c0 μ j s b v E P C O n w t dd) (hm : ∀ K i, inS j K i → μ' K i = μ K i) (hk : ∀ K, setK K → μ' K = μ K) : QS c0 μ' j s b v E P C O n w t dd := by
  obtain ⟨h0, hT, hS, h4, h5, h6⟩ := h
  have hC : C ≤ 8 := hT.2.2.2.1
  have hO : O ≤ 5 := hT.2.2.2.2.1
  refine ⟨?_, hT.mem hk, hS.cong ⟨?_, fun p hp => ?_, fun o ho => ?_, ?_, ?_, ?_, ?_, ?_⟩ (fun _ _ => rfl) hC hO, h4, h5, h6⟩
  · rw [hm 9 j (Or.inl ⟨Or.inl rfl, rfl⟩)]; exact h0
  all_goals exact hm _ _ (by unfold inS; omega)
theorem HS.mem {c0 : Int32} {μ μ' v : Mem} {j s b E P C O : Nat} (h : HS c0 μ j s b v E P C O) (hm : ∀ K i, inS j K i → μ' K i = μ K i) (hk : ∀ K, setK K → μ' K = μ K) : HS c0 μ' j s b v E P C O := by
  obtain ⟨n, w, t, dd, hd, hQ⟩ := h
  exact ⟨n, w, t, dd, hd, hQ.mem hm hk⟩
theorem HIS.fr {c0 : Int32} {μ μ' : Mem} {s E P C O h K : Nat} {pl : Nat → Nat × Mem} (H : HIS c0 μ s E P C O h K pl) (hk : ∀ K, setK K → μ' K = μ K) (hm : ∀ j K i, 2 ≤ j → j < 10 → inS j K i → μ' K i = μ K i) (h2 : μ' 2 0 1 = μ 2 0 1) (h34 : μ' 34 0 = μ 34 0) : HIS c0 μ' s E P C O h K pl := by
  obtain ⟨a1, a2, a3, π, a4, a5, a6⟩ := H
  refine ⟨a1, a2, h2.trans a3, π, fun i hi => by rw [h34]; exact a4 i hi, a5, fun i hi => ?_⟩
  have := a4 i (by omega)
  exact (a6 i hi).mem (fun K i' q => hm (π i) K i' this.2.1 this.2.2 q) hk
theorem HIS.pls {c0 : Int32} {μ : Mem} {s E P C O h K : Nat} {pl pl' : Nat → Nat × Mem} (H : HIS c0 μ s E P C O h K pl) (e : ∀ i, i < K → pl' i = pl i) : HIS c0 μ s E P C O h K pl' := by
  obtain ⟨a1, a2, a3, π, a4, a5, a6⟩ := H
  exact ⟨a1, a2, a3, π, a4, a5, fun i hi => by rw [e _ (by omega)]; exact a6 i hi⟩
/-- only what is kept for undo has changed -/
def Fr2 (μ μ' : Mem) : Prop := ∀ K i, K ≠ 34 → K ≠ 2 → (∀ j, 2 ≤ j → j < 10 → ¬ inS j K i) → μ' K i = μ K i
theorem Fr2.set {μ μ' : Mem} (h : Fr2 μ μ') {K : Nat} (hK : setK K) : μ' K = μ K := by
  funext i
  exact h K i (by unfold setK at hK; omega) (by unfold setK at hK; omega) (fun j _ _ q => by unfold inS at q; unfold setK at hK; omega)
theorem Fr2.shop {μ μ' : Mem} (h : Fr2 μ μ') {j K i : Nat} (hj : j < 2 ∨ 10 ≤ j) (hq : inS j K i) : μ' K i = μ K i :=
  h K i (by unfold inS at hq; omega) (by unfold inS at hq; omega) (fun j' h1 h2 q => by unfold inS at q hq; omega)
section Hist
variable {c0 : Int32} {μ v : Mem} {s b E P C O n w t dd h K : Nat} {pl : Nat → Nat × Mem} {π : Nat → Nat}
theorem C_forget (hp : ∀ i, i < 8 → μ 34 0 i = nI (π i) ∧ 2 ≤ π i ∧ π i < 10) : f_History_forgetOldest μ = some (st3 (st3 (shM μ 34 0 0 7) 34 0 7 (μ 34 0 0)) 2 0 1 7) := by
  have hc : ∀ i, i < 8 → (μ 34 0 i).toNatClampNeg = π i := fun i hi => by rw [(hp i hi).1, nI_clamp (by have := (hp i hi).2.2; omega)]
  have hn : ∀ i, i < 8 → Int32.ofNat (π i) = μ 34 0 i := fun i hi => (hp i hi).1.symm
  unfold f_History_forgetOldest
  rw [ib_0_8, chk_t, tn_0, hc 0 (by omega), chk_of (decide_eq_true (by have := (hp 0 (by omega)).2.2; omega))]
  refine it_fr (f := fun q : Int32 × Mem => s_History_forgetOldest_9 (π 0) q.1 q.2) (s := (1, μ)) (fun i q => q = (nI (i + 1), shM μ 34 0 0 i)) (fun q => q = shM μ 34 0 0 7) 7 0 (by omega) (by omega) (by rw [shM_0]; rfl) ?_ ?_ ?_
  · rintro i hi _ rfl
    refine ⟨_, ?_, rfl⟩
    show s_History_forgetOldest_9 (π 0) (nI (i + 1)) (shM μ 34 0 0 i) = _
    unfold s_History_forgetOldest_9
    have e0 : shM μ 34 0 0 i 34 0 (i + 1) = μ 34 0 (i + 1) := by rw [shM_S, shf_out (by omega)]
    have e := shM_st (μ := μ) (K := 34) (j := 0) (b := 0) (i := i)
    rw [Nat.zero_add, e0] at e
    rw [if_neg (gl_8 (by omega)), chk_of (inb_of (by omega) (by omega)), nI_clamp (by omega), e0, hc _ (by omega), chk_of (decide_eq_true (by have := (hp (i + 1) (by omega)).2.2; omega)), show nI (i + 1) - 1 = nI i from nI_pred i, chk_of (inb_of (by omega) (by omega)), nI_clamp (by omega), nm_9, nI_1, hn _ (by omega), e]
  · rintro _ rfl
    refine ⟨_, ?_, rfl⟩
    show s_History_forgetOldest_9 (π 0) (nI 8) (shM μ 34 0 0 7) = _
    unfold s_History_forgetOldest_9
    rw [if_pos (lg_8 (Nat.le_refl _) (by omega))]
  · rintro _ e rfl
    rw [e, bind_s, ib_7_8, chk_t, tn_7, hn 0 (by omega)]
    rfl
/-- the shop is kept -/
theorem L_keep {j : Nat} {m : Mem} (hj : 2 ≤ j ∧ j < 10) (hQ : QS c0 m 0 s b v E P C O n w t dd) (hd : dd ≤ 9999) {x : Int32} : ∃ m', f_Shop_copyFrom j 0 m = some m' ∧ HS c0 (st3 m' 2 0 1 x) j s b v E P C O ∧ ∀ K i, ¬ inS j K i → m' K i = m K i := by
  obtain ⟨h0, hT, H, h4, h5, h6⟩ := hQ
  have hC : C ≤ 8 := hT.2.2.2.1
  have hO : O ≤ 5 := hT.2.2.2.2.1
  obtain ⟨m', e1, hc⟩ := C_copy (μ := m) (j1 := j) (j2 := 0) (s := s) (by omega) h0 hT.1 H.out
  have hT' : ST m' s (rO c0 b v) E P C O := hT.mem (fun K hK => by funext i; exact hc.1 K i (by unfold inS; unfold setK at hK; omega))
  have h9 : m' 9 j 0 = nI s := (hc.2.1 0 (Or.inl rfl)).trans h0
  have hh : HS c0 m' j s b v E P C O := ⟨n, w, t, dd, hd, h9, hT', H.cpy hc hC hO, h4, h5, h6⟩
  refine ⟨m', e1, hh.mem (fun K i q => ?_) (fun K q => ?_), hc.1⟩
  · rw [st3_K (by unfold inS at q; omega)]
  · rw [st3_K (by unfold setK at q; omega)]
theorem L_record (hH : HIS c0 μ s E P C O h K pl) (hQ : QS c0 μ 0 s b v E P C O n w t dd) (hd : dd ≤ 9999) (hpl : pl K = (b, v)) :
    ∃ μ', f_History_record 0 μ = some μ' ∧ HIS c0 μ' s E P C O (if h < 8 then h + 1 else 8) (K + 1) pl ∧ Fr2 μ μ' := by
  obtain ⟨hh, hK, c1, π, hp, hinj, hs⟩ := hH
  by_cases h8 : h < 8
  · rw [if_pos h8]
    obtain ⟨m', e1, e2, e3⟩ := L_keep (hp h h8).2 hQ hd (x := nI (h + 1))
    refine ⟨st3 m' 2 0 1 (nI (h + 1)), ?_, ⟨h8, by omega, ?_, π, fun i hi => ?_, hinj, fun i hi => ?_⟩, fun K i k1 k2 k3 => ?_⟩
    · unfold f_History_record
      rw [c1, if_pos (ll_8 h8), bind_s, c1, chk_of (inb_of h8 (by omega)), nI_clamp (by omega), (hp h h8).1, nI_clamp (by have := (hp h h8).2; omega), chk_of (decide_eq_true (by have := (hp h h8).2; omega)), e1, bind_s, nm_9, e3 2 0 (by unfold inS; omega), c1, nI_1]
    · rw [st3_ua, ua_S]
    · rw [st3_K (by omega), e3 34 0 (by unfold inS; omega)]; exact hp i hi
    · by_cases e : i = h
      · subst e
        rw [show K + 1 - (i + 1) + i = K by omega, hpl]
        exact e2
      · have hne : π i ≠ π h := fun z => e (hinj i h (by omega) h8 z)
        rw [show K + 1 - (h + 1) + i = K - h + i by omega]
        refine (hs i (by omega)).mem (fun K i' q => ?_) (fun K q => ?_)
        · rw [st3_K (by unfold inS at q; omega)]
          exact e3 K i' (by unfold inS at q ⊢; omega)
        · rw [st3_K (by unfold setK at q; omega)]
          funext i'
          exact e3 K i' (by unfold inS; unfold setK at q; omega)
    · rw [st3_K k2]; exact e3 K i (k3 _ (hp h h8).2.1 (hp h h8).2.2)
  · rw [if_neg h8]
    obtain rfl : h = 8 := by omega
    have eF := C_forget hp
    have p0 := hp 0 (by omega)
    generalize hm : st3 (st3 (shM μ 34 0 0 7) 34 0 7 (μ 34 0 0)) 2 0 1 7 = m at eF
    have mK : ∀ K, K ≠ 34 → K ≠ 2 → m K = μ K := fun K k1 k2 => by rw [← hm, st3_K k2, st3_K k1, shM_K k1]
    have m34 : ∀ i, i < 8 → m 34 0 i = nI (if i < 7 then π (i + 1) else π 0) := fun i hi => by
      rw [← hm, st3_K (by omega), st3_ua]
      by_cases e : i = 7
      · subst e; rw [ua_S, if_neg (by omega)]; exact p0.1
      · rw [ua_N e, shM_S, shf_in (by omega) (by omega), if_pos (by omega)]; exact (hp (i + 1) (by omega)).1
    have m2 : m 2 0 1 = nI 7 := by rw [← hm, st3_ua, ua_S]; rfl
    have hQ' : QS c0 m 0 s b v E P C O n w t dd := hQ.mem (fun K i q => by rw [mK K (by unfold inS at q; omega) (by unfold inS at q; omega)]) (fun K q => mK K (by unfold setK at q; omega) (by unfold setK at q; omega))
    obtain ⟨m', e1, e2, e3⟩ := L_keep (j := π 0) p0.2 hQ' hd (x := nI 8)
    refine ⟨st3 m' 2 0 1 (nI 8), ?_, ⟨Nat.le_refl _, by omega, ?_, fun i => if i < 7 then π (i + 1) else π 0, fun i hi => ?_, fun i i' hi hi' => ?_, fun i hi => ?_⟩, fun K i k1 k2 k3 => ?_⟩
    · unfold f_History_record
      have m7 : m 34 0 7 = nI (π 0) := by have := m34 7 (by omega); rwa [if_neg (by omega)] at this
      rw [c1, if_neg (nl_8 (Nat.le_refl _) (by omega)), eF, bind_s, bind_s, m2, chk_of (inb_of (by omega) (by omega)), nI_clamp (by omega), m7, nI_clamp (by omega), chk_of (decide_eq_true (by omega)), e1, bind_s, nm_9, e3 2 0 (by unfold inS; omega), m2, nI_1]
    · rw [st3_ua, ua_S]
    · refine ⟨?_, ?_⟩
      · rw [st3_K (by omega), e3 34 0 (by unfold inS; omega)]; exact m34 i hi
      · show 2 ≤ (if i < 7 then π (i + 1) else π 0) ∧ (if i < 7 then π (i + 1) else π 0) < 10
        split
        · exact (hp (i + 1) (by omega)).2
        · exact p0.2
    · show (if i < 7 then π (i + 1) else π 0) = (if i' < 7 then π (i' + 1) else π 0) → _
      intro z
      split at z <;> split at z
      · have := hinj (i + 1) (i' + 1) (by omega) (by omega) z; omega
      · have := hinj (i + 1) 0 (by omega) (by omega) z; omega
      · have := hinj 0 (i' + 1) (by omega) (by omega) z; omega
      · omega
    · show HS c0 _ (if i < 7 then π (i + 1) else π 0) s _ _ E P C O
      by_cases e : i = 7
      · subst e
        rw [if_neg (by omega), show K + 1 - 8 + 7 = K by omega, hpl]
        exact e2
      · rw [if_pos (by omega), show K + 1 - 8 + i = K - 8 + (i + 1) by omega]
        have hne : π (i + 1) ≠ π 0 := fun z => by have := hinj (i + 1) 0 (by omega) (by omega) z; omega
        refine (hs (i + 1) (by omega)).mem (fun K i' q => ?_) (fun K q => ?_)
        · rw [st3_K (by unfold inS at q; omega), e3 K i' (by unfold inS at q ⊢; omega), mK K (by unfold inS at q; omega) (by unfold inS at q; omega)]
        · rw [st3_K (by unfold setK at q; omega)]
          funext i'
          rw [e3 K i' (by unfold inS; unfold setK at q; omega), mK K (by unfold setK at q; omega) (by unfold setK at q; omega)]
    · rw [st3_K k2, e3 K i (k3 _ p0.2.1 p0.2.2), mK K k1 k2]
/-- one change is undone -/
theorem T_undo (hH : HIS c0 μ s E P C O (h + 1) (K + 1) pl) (hs : s < 2) : ∃ m, f_P_undo μ = some (nI h, m) ∧ HS c0 m 0 s (pl K).1 (pl K).2 E P C O ∧ HIS c0 m s E P C O h K pl ∧ m 12 = μ 12 := by
  obtain ⟨hh, hK, b2, π, b4, b5, b6⟩ := hH
  have hp := b4 h (by omega)
  have hS := b6 h (by omega)
  rw [show K + 1 - (h + 1) + h = K by omega] at hS
  obtain ⟨n, w, t, dd, hdd, h0, hT, H, h4, h5, h6⟩ := hS
  have hC : C ≤ 8 := hT.2.2.2.1
  have hO : O ≤ 5 := hT.2.2.2.2.1
  generalize hμ1 : st3 μ 2 0 1 (nI h) = μ1
  have h1 : ∀ K, K ≠ 2 → μ1 K = μ K := fun K k => by rw [← hμ1, st3_K k]
  obtain ⟨m, e1, hc⟩ := C_copy (μ := μ1) (j1 := 0) (j2 := π h) (s := s) (by omega) (by rw [h1 9 (by omega)]; exact h0) hs (fun o ho => by rw [h1 4 (by omega)]; exact H.out o ho)
  have eC : f_P_undo μ = some (nI h, m) := by
    unfold f_P_undo f_History_takeBack
    rw [b2, if_neg (ne_0 (by omega) (by omega)), if_neg (le_0 (by omega) (by omega)), nm_9, nI_pred, hμ1]
    have q1 : μ1 2 0 1 = nI h := by rw [← hμ1, st3_ua, ua_S]
    rw [q1, chk_of (inb_of (by omega) (by omega)), nI_clamp (by omega), h1 34 (by omega), hp.1, nI_clamp (by omega), chk_of (decide_eq_true (by omega)), e1, bind_s, bind_s, hc.1 2 0 (by unfold inS; omega), q1]
  have mK : ∀ K i, ¬ inS 0 K i → K ≠ 2 → m K i = μ K i := fun K i q k => (hc.1 K i q).trans (by rw [h1 K k])
  have mS : ∀ K, setK K → m K = μ K := fun K q => by
    funext i
    exact mK K i (by unfold inS; unfold setK at q; omega) (by unfold setK at q; omega)
  have cS1 : SH μ1 (π h) (rO c0 (pl K).1 (pl K).2) E P C O n w t dd := H.cong ⟨by rw [h1 9 (by omega)], fun p _ => by rw [h1 5 (by omega)], fun o _ => by rw [h1 4 (by omega)], by rw [h1 27 (by omega)], by rw [h1 30 (by omega)], by rw [h1 31 (by omega)], by rw [h1 32 (by omega)], by rw [h1 33 (by omega)]⟩ (fun _ _ => rfl) hC hO
  refine ⟨m, eC, ⟨n, w, t, dd, hdd, ?_, hT.mem mS, cS1.cpy hc hC hO, h4, h5, h6⟩, ⟨by omega, by omega, ?_, π, fun i hi => ?_, b5, fun i hi => ?_⟩, ?_⟩
  · rw [hc.2.1 0 (Or.inl rfl), h1 9 (by omega)]; exact h0
  · rw [hc.1 2 0 (by unfold inS; omega), ← hμ1, st3_ua, ua_S]
  · rw [mK 34 0 (by unfold inS; omega) (by omega)]; exact b4 i hi
  · have := b4 i (by omega)
    have g := b6 i (by omega)
    rw [show K + 1 - (h + 1) + i = K - h + i by omega] at g
    exact g.mem (fun K i' q => mK K i' (by unfold inS at q ⊢; omega) (by unfold inS at q; omega)) mS
  · funext i
    exact mK 12 i (by unfold inS; omega) (by omega)
theorem T_undoCount (hH : HIS c0 μ s E P C O h K pl) : f_P_undoCount μ = some (nI h) := by
  unfold f_P_undoCount
  rw [hH.2.2.1]
end Hist

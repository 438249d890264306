/-! Undo, the slots, the forecasts. -/
section Slots
variable {μ ν : Mem} {s E P C O n w t dd h L : Nat} {π : Nat → Nat}
theorem T_undoCount (hG : GR μ ν) : Rd0 μ ν (f_P_undoCount μ) (f_R_undoCount ν) := by
  obtain ⟨s, E, P, C, O, n, w, t, dd, h, π, L, H⟩ := hG
  obtain ⟨-, c1, c2, -⟩ := H.2.2.2.2.2.1
  refine ⟨nI h, _, by unfold f_P_undoCount; rw [c1], ?_, (H.th (x := 0) (Or.inl rfl)).gr, outN.rf.st (by omega)⟩
  unfold f_R_undoCount
  rw [nm_9, st3_ua, ua_N (by omega), c2]
/-- the shop is taken from a kept one -/
theorem GRp.take {μ1 m v : Mem} {a : Nat → Int32} {j h' : Nat} (H : GRp μ ν s E P C O n w t dd h π L) (hj : 2 ≤ j ∧ j < 12) (hS : HS μ j s a E P C O) (h1 : ∀ K, K ≠ 2 → μ1 K = μ K) (hc : CPY μ1 m 0 j) (hK : ∀ K, K ≠ 40 → K ≠ 13 → v K = ν K) (h13 : ∀ f, f ≠ 6 → f ≠ 7 → v 13 0 f = ν 13 0 f) (ha : ∀ k, k < 524 → v 40 0 k = a k) (hh : h' ≤ h) (e1 : μ1 2 0 1 = nI h') (e2 : v 13 0 6 = nI h') : ∃ n' w' t' dd', GRp m v s E P C O n' w' t' dd' h' π L := by
  obtain ⟨a1, a2, a3, a4, a5, ⟨b1, b2, b3, b4, b5, b6⟩, a7, a8, a9, a10⟩ := H
  obtain ⟨c0, cT, n', w', t', dd', cd, cS⟩ := hS
  have hC : C ≤ 8 := a3.2.2.2.1
  have hO : O ≤ 5 := a3.2.2.2.2.1
  have mK : ∀ K i, ¬ inS 0 K i → K ≠ 2 → m K i = μ K i := fun K i q k => (hc.1 K i q).trans (by rw [h1 K k])
  have mS : ∀ K, setK K → m K = μ K := fun K q => by
    funext i
    exact mK K i (by unfold inS; unfold setK at q; omega) (by unfold setK at q; omega)
  have cS1 : SH μ1 j a E P C O n' w' t' dd' := cS.cong ⟨by rw [h1 9 (by omega)], fun p _ => by rw [h1 5 (by omega)], fun o _ => by rw [h1 4 (by omega)], by rw [h1 27 (by omega)], by rw [h1 30 (by omega)], by rw [h1 31 (by omega)], by rw [h1 32 (by omega)], by rw [h1 33 (by omega)]⟩ (fun _ _ => rfl) hC hO
  refine ⟨n', w', t', dd', ?_, ?_, (cT.mem mS).cong (fun k q => ha k (by unfold dynI at q; omega)), (cS1.cpy hc hC hO).cong ⟨rfl, fun _ _ => rfl, fun _ _ => rfl, rfl, rfl, rfl, rfl, rfl⟩ ha hC hO, cd, ⟨by omega, ?_, e2, ?_, b5, fun i hi => ?_⟩, ?_, ?_, ?_, ?_⟩
  · rw [mK 12 0 (by unfold inS; omega) (by omega)]; exact a1
  · rw [hc.2.1 0 (Or.inl rfl), h1 9 (by omega)]; exact c0
  · rw [hc.1 2 0 (by unfold inS; omega)]; exact e1
  · rw [mK 34 0 (by unfold inS; omega) (by omega)]; exact b4
  · have := b4 i (by omega)
    refine (b6 i (by omega)).mem (fun K i' q => mK K i' (by unfold inS at q ⊢; omega) (by unfold inS at q; omega)) mS (fun k hk => ?_)
    unfold slice
    rw [hK 43 (by omega) (by omega)]
  · exact a7.fr mS (fun j K i j1 j2 q => mK K i (by unfold inS at q ⊢; omega) (by unfold inS at q; omega)) (mK 36 0 (by unfold inS; omega) (by omega)) (by rw [hK 44 (by omega) (by omega)]) (by rw [hK 45 (by omega) (by omega)])
  · exact a8.fr (mK 11 0 (by unfold inS; omega) (by omega)) (mK 20 0 (by unfold inS; omega) (by omega)) (h13 9 (by omega) (by omega)) (by rw [hK 46 (by omega) (by omega)])
  · rw [mK 12 0 (by unfold inS; omega) (by omega), h13 10 (by omega) (by omega), h13 11 (by omega) (by omega)]; exact a9
  · rw [h13 22 (by omega) (by omega)]; exact a10
theorem T_undo (hG : GR μ ν) : ChOK μ ν [(xISE, 1)] (f_P_undo μ) (f_R_undo ν) := by
  obtain ⟨s, E, P, C, O, n, w, t, dd, h, π, L, H⟩ := hG
  have H0 := H
  obtain ⟨a1, a2, a3, a4, a5, ⟨b1, b2, b3, b4, b5, b6⟩, a7, a8, a9, a10⟩ := H
  have n6 : (st3 ν 13 0 7 0) 13 0 6 = nI h := by rw [st3_ua, ua_N (by omega)]; exact b3
  by_cases hz : h = 0
  · subst hz
    refine ⟨.inl xISE, 0, μ, _, by unfold f_P_undo; rw [b2, if_pos (show nI 0 = 0 from rfl)], ?_, Or.inr ⟨(xISE, 1), List.mem_singleton.mpr rfl, rfl, th0⟩, (H0.th (x := 1) (Or.inl rfl)).gr, rfl, outN.rf.st (by omega)⟩
    unfold f_R_undo
    rw [nm_9, n6, if_pos (by decide), bind_s, right_0 th0 (by decide), bind_s, if_pos rfl, snd_]
    have : st3 (st3 ν 13 0 7 0) 13 0 7 1 = st3 ν 13 0 7 1 := by
      funext K j f
      unfold st3
      split <;> rfl
    rw [this]
  · have hp := b4 (h - 1) (by omega)
    have hS := b6 (h - 1) (by omega)
    generalize hμ1 : st3 μ 2 0 1 (nI (h - 1)) = μ1
    have h1 : ∀ K, K ≠ 2 → μ1 K = μ K := fun K k => by rw [← hμ1, st3_K k]
    obtain ⟨m, e1, hc⟩ := C_copy (μ := μ1) (j1 := 0) (j2 := π (h - 1)) (s := s) (by omega) (by rw [h1 9 (by omega)]; exact hS.1) a3.1 (fun o ho => by rw [h1 4 (by omega)]; obtain ⟨-, -, n', w', t', dd', -, q⟩ := hS; exact q.out o ho)
    generalize hv : cpM (st3 (st3 ν 13 0 7 0) 13 0 6 (nI (h - 1))) 40 0 43 (524 * (h - 1)) 524 = v
    have eC : f_P_undo μ = some (.inr (nI (h - 1)), m) := by
      unfold f_P_undo f_History_takeBack
      rw [b2, if_neg (ne_0 (by omega) (by omega)), if_neg (le_0 (by omega) (by omega)), nm_9, show nI h - 1 = nI (h - 1) by rw [← nI_pred (h - 1), Nat.sub_add_cancel (by omega)], hμ1]
      have q1 : μ1 2 0 1 = nI (h - 1) := by rw [← hμ1, st3_ua, ua_S]
      rw [q1, chk_of (inb_of (by omega) (by omega)), nI_clamp (by omega), h1 34 (by omega), hp.1, nI_clamp (by omega), chk_of (decide_eq_true (by omega)), e1, bind_s, bind_s, hc.1 2 0 (by unfold inS; omega), q1]
    have eM : f_R_undo ν = some (nI (h - 1), v) := by
      unfold f_R_undo
      rw [nm_9, n6, if_neg (le_0 (by omega) (by omega)), bind_s, right_1 th0, bind_s, if_neg n1_, snd_, n6, nm_9, show nI h - 1 = nI (h - 1) by rw [← nI_pred (h - 1), Nat.sub_add_cancel (by omega)]]
      have hk6 : ∀ i, (cpM (st3 (st3 ν 13 0 7 0) 13 0 6 (nI (h - 1))) 40 0 43 (524 * (h - 1)) i) 13 0 6 = nI (h - 1) := fun i => by rw [cpM_K (by omega), st3_ua, ua_S]
      rw [it_cp (st3 (st3 ν 13 0 7 0) 13 0 6 (nI (h - 1))) 40 0 43 (524 * (h - 1)) 524 (Or.inl (by omega)) (by omega) (fun i hi => ?_) (fun m => ?_), hv, bind_s]
      · rw [← hv, hk6]
      · show s_R_undo_39 (nI i) (cpM (st3 (st3 ν 13 0 7 0) 13 0 6 (nI (h - 1))) 40 0 43 (524 * (h - 1)) i) = _
        unfold s_R_undo_39
        rw [if_neg (gl_524 hi), hk6, show (524 : Int32) * nI (h - 1) + nI i = nI (524 * (h - 1) + i) by rw [show (524 : Int32) = nI 524 from rfl, pk_mul, nI_add], chk_of (inb_of (by omega) (by omega)), chk_of (inb_of hi (by omega)), nI_clamp (by omega), nI_clamp (by omega), nm_9, nI_1, Nat.zero_add]
      · show s_R_undo_39 (nI 524) m = _
        unfold s_R_undo_39
        rw [if_pos (lg_524 (Nat.le_refl _) (by omega))]
    have vK : ∀ K, K ≠ 40 → K ≠ 13 → v K = ν K := fun K k1 k2 => by rw [← hv, cpM_K k1, st3_K k2, st3_K k2]
    have v13 : ∀ f, f ≠ 6 → f ≠ 7 → v 13 0 f = ν 13 0 f := fun f k1 k2 => by rw [← hv, cpM_K (by omega), st3_ua, ua_N k1, st3_ua, ua_N k2]
    have va : ∀ k, k < 524 → v 40 0 k = slice ν 43 (h - 1) k := fun k hk => by
      have := cpM_in (μ := st3 (st3 ν 13 0 7 0) 13 0 6 (nI (h - 1))) (K1 := 40) (b1 := 0) (K2 := 43) (b2 := 524 * (h - 1)) (n := 524) hk
      rw [Nat.zero_add, hv] at this
      rw [this, st3_K (by omega), st3_K (by omega)]
      rfl
    obtain ⟨n', w', t', dd', HN⟩ := H0.take (μ1 := μ1) (v := v) (h' := h - 1) ⟨hp.2.1, by omega⟩ hS h1 hc vK v13 va (by omega) (by rw [← hμ1, st3_ua, ua_S]) (by rw [← hv, cpM_K (by omega), st3_ua, ua_S])
    refine ⟨_, _, m, v, eC, eM, Or.inl ⟨rfl, ?_⟩, HN.gr, ?_, ?_, ?_⟩
    · rw [← hv, cpM_K (by omega), st3_ua, ua_N (by omega)]; exact th0
    · rw [hc.1 12 0 (by unfold inS; omega), h1 12 (by omega)]
    · exact vK 49 (by omega) (by omega)
    · exact v13 28 (by omega) (by omega)
theorem C_slot (x : Int32) : (if x < 0 then (some (0)) else (if (2 : Int32) ≤ x then (some (0)) else (some (1))) : Option (Int32)) = some (ixB x 2) := by
  unfold ixB
  by_cases h1 : x < 0
  · rw [if_pos h1, if_pos (Or.inl h1)]
  · rw [if_neg h1]
    by_cases h2 : (2 : Int32) ≤ x
    · rw [if_pos h2, if_pos (show x < 0 ∨ nI 2 ≤ x from Or.inr h2)]
    · rw [if_neg h2, if_neg (show ¬ (x < 0 ∨ nI 2 ≤ x) from by rintro (z | z); exact h1 z; exact h2 z)]
theorem R_slot (x : Int32) (v : Mem) : f_R_in x 0 1 v = some (ixB x 2) := in_ix x (n := 2) (by omega) v
theorem th_th {x y : Int32} : st3 (st3 ν 13 0 7 x) 13 0 7 y = st3 ν 13 0 7 y := by
  funext K j f
  unfold st3
  split <;> rfl
/-- no such slot -/
theorem T_noIx {tab : List (String × Int32)} {cf : Option ((String ⊕ Int32) × Mem)} {md : Option (Int32 × Mem)} {e : String} {k : Int32} (hG : GR μ ν) (h1 : cf = some (.inl e, μ)) (h2 : md = some (0, st3 ν 13 0 7 k)) (ht : (e, k) ∈ tab) : ChOK μ ν tab cf md := by
  obtain ⟨s, E, P, C, O, n, w, t, dd, h, π, L, H⟩ := hG
  exact ⟨.inl e, 0, μ, _, h1, h2, Or.inr ⟨(e, k), ht, rfl, th0⟩, (H.th (Or.inl rfl)).gr, rfl, outN.rf.st (by omega)⟩
theorem T_save (hG : GR μ ν) (x : Int32) : ChOK μ ν [(xIOB, 1)] (f_P_save x μ) (f_R_save x ν) := by
  rcases ixB_c x (n := 2) (by omega) with ⟨e0, -⟩ | ⟨e1, i, hi, rfl⟩
  · refine T_noIx hG ?_ ?_ (List.mem_singleton.mpr rfl)
    · unfold f_P_save
      rw [C_slot, bind_s, e0]; rfl
    · unfold f_R_save
      rw [nm_9, R_slot, bind_s, e0, right_0 th0 (by decide), bind_s, if_pos rfl, snd_, th_th]
  · obtain ⟨s, E, P, C, O, n, w, t, dd, h, π, L, H⟩ := hG
    obtain ⟨a1, a2, a3, a4, a5, a6, a7, a8, a9, a10⟩ := H
    have hC : C ≤ 8 := a3.2.2.2.1
    have hO : O ≤ 5 := a3.2.2.2.2.1
    obtain ⟨m0, e2, hc⟩ := C_copy (μ := μ) (j1 := 10 + i) (j2 := 0) (s := s) (by omega) a2 a3.1 a4.out
    generalize hm : st3 m0 36 0 i 1 = m
    generalize hv : st3 (cpM (st3 ν 13 0 7 0) 44 (524 * i) 40 0 524) 45 0 i 1 = v
    have mK : ∀ K i', ¬ inS (10 + i) K i' → K ≠ 36 → m K i' = μ K i' := fun K i' q k => by rw [← hm, st3_K k]; exact hc.1 K i' q
    have vK : ∀ K, K ≠ 44 → K ≠ 45 → K ≠ 13 → v K = ν K := fun K k1 k2 k3 => by rw [← hv, st3_K k2, cpM_K k1, st3_K k3]
    have v13 : ∀ f, f ≠ 7 → v 13 0 f = ν 13 0 f := fun f k1 => by rw [← hv, st3_K (by omega), cpM_K (by omega), st3_ua, ua_N k1]
    have mS : ∀ K, setK K → m K = μ K := fun K q => by
      funext i'
      exact mK K i' (by unfold inS; unfold setK at q; omega) (by unfold setK at q; omega)
    have eC : f_P_save (nI i) μ = some (.inr (m 9 0 1), m) := by
      unfold f_P_save
      rw [C_slot, bind_s, e1, nI_clamp (by omega)]
      show chk _ _ = _
      rw [chk_of (inb_of hi (by omega)), e2, bind_s, chk_of (inb_of hi (by omega)), nm_9, hm]
    have eM : f_R_save (nI i) ν = some (v 40 0 5, v) := by
      unfold f_R_save
      rw [nm_9, R_slot, bind_s, e1, right_1 th0, bind_s, if_neg n1_, snd_]
      rw [it_cp (st3 ν 13 0 7 0) 44 (524 * i) 40 0 524 (Or.inl (by omega)) (by omega) (fun k hk => ?_) (fun m => ?_), bind_s, chk_of (inb_of hi (by omega)), nI_clamp (by omega), nm_9, hv, ib_5_524, chk_t, tn_5]
      · show s_R_save_23 (nI i) (nI k) _ = _
        unfold s_R_save_23
        rw [if_neg (gl_524 hk), chk_of (inb_of hk (by omega)), show (524 : Int32) * nI i + nI k = nI (524 * i + k) by rw [show (524 : Int32) = nI 524 from rfl, pk_mul, nI_add], chk_of (inb_of (by omega) (by omega)), nI_clamp (by omega), nI_clamp (by omega), nm_9, nI_1, Nat.zero_add]
      · show s_R_save_23 (nI i) (nI 524) m = _
        unfold s_R_save_23
        rw [if_pos (lg_524 (Nat.le_refl _) (by omega))]
    have d1 : m 9 0 1 = v 40 0 5 := by
      rw [mK 9 0 (by unfold inS; omega) (by omega), vK 40 (by omega) (by omega) (by omega)]
      exact a4.1.2.2.2.2.1.trans a4.1.2.2.2.2.2.1.symm
    have v40 : v 40 = ν 40 := vK 40 (by omega) (by omega) (by omega)
    have HN : GRp m v s E P C O n w t dd h π L := by
      refine ⟨?_, ?_, ?_, ?_, a5, ?_, fun i' hi' => ?_, ?_, ?_, ?_⟩
      · rw [mK 12 0 (by unfold inS; omega) (by omega)]; exact a1
      · rw [mK 9 0 (by unfold inS; omega) (by omega)]; exact a2
      · rw [v40]; exact a3.mem mS
      · rw [v40]; exact a4.cong ⟨mK _ _ (by unfold inS; omega) (by omega), fun p hp => mK _ _ (by unfold inS; omega) (by omega), fun o ho => mK _ _ (by unfold inS; omega) (by omega), mK _ _ (by unfold inS; omega) (by omega), mK _ _ (by unfold inS; omega) (by omega), mK _ _ (by unfold inS; omega) (by omega), mK _ _ (by unfold inS; omega) (by omega), mK _ _ (by unfold inS; omega) (by omega)⟩ (fun _ _ => rfl) hC hO
      · exact a6.fr mS (fun j K i' j1 j2 q => mK K i' (by unfold inS at q ⊢; omega) (by unfold inS at q; omega)) (by rw [mK 2 0 (by unfold inS; omega) (by omega)]) (mK 34 0 (by unfold inS; omega) (by omega)) (by rw [vK 43 (by omega) (by omega) (by omega)]) (v13 6 (by omega))
      · by_cases e : i' = i
        · subst e
          refine Or.inr ⟨by rw [← hm, st3_ua, ua_S], by rw [← hv, st3_ua, ua_S], ?_, ?_, n, w, t, dd, a5, ?_⟩
          · rw [← hm, st3_K (by omega), hc.2.1 0 (Or.inl rfl)]; exact a2
          · exact (a3.mem mS).cong (fun k q => by
              have hk : k < 524 := by unfold dynI at q; omega
              unfold slice
              rw [← hv, st3_K (by omega), cpM_in hk, Nat.zero_add, st3_K (by omega)])
          · exact (a4.cpy hc hC hO).cong ⟨by rw [← hm, st3_K (by omega)], fun p hp => by rw [← hm, st3_K (by omega)], fun o ho => by rw [← hm, st3_K (by omega)], by rw [← hm, st3_K (by omega)], by rw [← hm, st3_K (by omega)], by rw [← hm, st3_K (by omega)], by rw [← hm, st3_K (by omega)], by rw [← hm, st3_K (by omega)]⟩ (fun k hk => by
              unfold slice
              rw [← hv, st3_K (by omega), cpM_in hk, Nat.zero_add, st3_K (by omega)]) hC hO
        · have q36 : m 36 0 i' = μ 36 0 i' := by rw [← hm, st3_ua, ua_N e, hc.1 36 0 (by unfold inS; omega)]
          have q45 : v 45 0 i' = ν 45 0 i' := by rw [← hv, st3_ua, ua_N e, cpM_K (by omega), st3_K (by omega)]
          rw [q36, q45]
          rcases a7 i' hi' with q | ⟨q1, q2, q3⟩
          · exact Or.inl q
          · refine Or.inr ⟨q1, q2, q3.mem (fun K i'' q => mK K i'' (by unfold inS at q ⊢; omega) (by unfold inS at q; omega)) mS (fun k hk => ?_)⟩
            unfold slice
            rw [← hv, st3_K (by omega), cpM_out (by omega), st3_K (by omega)]
      · exact a8.fr (mK 11 0 (by unfold inS; omega) (by omega)) (mK 20 0 (by unfold inS; omega) (by omega)) (v13 9 (by omega)) (by rw [vK 46 (by omega) (by omega) (by omega)])
      · rw [mK 12 0 (by unfold inS; omega) (by omega), v13 10 (by omega), v13 11 (by omega)]; exact a9
      · rw [v13 22 (by omega)]; exact a10
    refine ⟨_, _, m, v, eC, by rw [eM, d1], Or.inl ⟨rfl, ?_⟩, HN.gr, ?_, ?_, ?_⟩
    · rw [← hv, st3_K (by omega), cpM_K (by omega)]; exact th0
    · rw [mK 12 0 (by unfold inS; omega) (by omega)]
    · exact vK 49 (by omega) (by omega) (by omega)
    · exact v13 28 (by omega)
theorem T_restore (hG : GR μ ν) (x : Int32) : ChOK μ ν [(xIOB, 1), (xNSE, 2)] (f_P_restore x μ) (f_R_restore x ν) := by
  rcases ixB_c x (n := 2) (by omega) with ⟨e0, -⟩ | ⟨e1, i, hi, rfl⟩
  · refine T_noIx hG (e := xIOB) (k := 1) ?_ ?_ (by decide)
    · unfold f_P_restore
      rw [C_slot, bind_s, e0]; rfl
    · unfold f_R_restore
      rw [nm_9, R_slot, bind_s, e0, right_0 th0 (by decide), bind_s, if_pos rfl, snd_, th_th]
  · have hG0 := hG
    obtain ⟨s, E, P, C, O, n, w, t, dd, h, π, L, H⟩ := hG
    have H0 := H
    obtain ⟨a1, a2, a3, a4, a5, a6, a7, a8, a9, a10⟩ := H
    rcases a7 i hi with ⟨q1, q2⟩ | ⟨q1, q2, hS⟩
    · refine T_noIx hG0 (e := xNSE) (k := 2) ?_ ?_ (by decide)
      · unfold f_P_restore
        rw [C_slot, bind_s, e1, nI_clamp (by omega)]
        show chk _ _ = _
        rw [chk_of (inb_of hi (by omega)), q1, if_pos rfl]
      · unfold f_R_restore
        rw [nm_9, R_slot, bind_s, e1, right_1 th0, bind_s, if_neg n1_, snd_, chk_of (inb_of hi (by omega)), nI_clamp (by omega), st3_K (show 45 ≠ 13 by omega), q2, right_0 th0 (by decide), bind_s, if_pos rfl, snd_, th_th]
    · obtain ⟨m0, e2, hc⟩ := C_copy (μ := μ) (j1 := 0) (j2 := 10 + i) (s := s) (by omega) hS.1 a3.1 (by obtain ⟨-, -, n', w', t', dd', -, q⟩ := hS; exact q.out)
      generalize hm : st3 m0 2 0 1 0 = m
      generalize hv : st3 (cpM (st3 ν 13 0 7 0) 40 0 44 (524 * i) 524) 13 0 6 0 = v
      have eC : f_P_restore (nI i) μ = some (.inr (m 9 0 1), m) := by
        unfold f_P_restore
        rw [C_slot, bind_s, e1, nI_clamp (by omega)]
        show chk _ _ = _
        rw [chk_of (inb_of hi (by omega)), q1, if_neg (by decide), chk_of (inb_of hi (by omega)), e2, bind_s, nm_9, hm]
      have eM : f_R_restore (nI i) ν = some (v 40 0 5, v) := by
        unfold f_R_restore
        rw [nm_9, R_slot, bind_s, e1, right_1 th0, bind_s, if_neg n1_, snd_, chk_of (inb_of hi (by omega)), nI_clamp (by omega), st3_K (show 45 ≠ 13 by omega), q2, right_1 th0, bind_s, if_neg n1_, snd_]
        rw [it_cp (st3 ν 13 0 7 0) 40 0 44 (524 * i) 524 (Or.inl (by omega)) (by omega) (fun k hk => ?_) (fun m => ?_), bind_s, nm_9, hv, ib_5_524, chk_t, tn_5]
        · show s_R_restore_37 (nI i) (nI k) _ = _
          unfold s_R_restore_37
          rw [if_neg (gl_524 hk), show (524 : Int32) * nI i + nI k = nI (524 * i + k) by rw [show (524 : Int32) = nI 524 from rfl, pk_mul, nI_add], chk_of (inb_of (by omega) (by omega)), chk_of (inb_of hk (by omega)), nI_clamp (by omega), nI_clamp (by omega), nm_9, nI_1, Nat.zero_add]
        · show s_R_restore_37 (nI i) (nI 524) m = _
          unfold s_R_restore_37
          rw [if_pos (lg_524 (Nat.le_refl _) (by omega))]
      have vK : ∀ K, K ≠ 40 → K ≠ 13 → v K = ν K := fun K k1 k2 => by rw [← hv, st3_K k2, cpM_K k1, st3_K k2]
      have v13 : ∀ f, f ≠ 6 → f ≠ 7 → v 13 0 f = ν 13 0 f := fun f k1 k2 => by rw [← hv, st3_ua, ua_N k1, cpM_K (by omega), st3_ua, ua_N k2]
      have va : ∀ k, k < 524 → v 40 0 k = slice ν 44 i k := fun k hk => by
        have := cpM_in (μ := st3 ν 13 0 7 0) (K1 := 40) (b1 := 0) (K2 := 44) (b2 := 524 * i) (n := 524) hk
        rw [Nat.zero_add] at this
        rw [← hv, st3_K (by omega), this, st3_K (by omega)]
        rfl
      have h1 : ∀ K, K ≠ 2 → (st3 μ 2 0 1 0) K = μ K := fun K k => st3_K k
      have hc' : CPY (st3 μ 2 0 1 0) m 0 (10 + i) := by
        obtain ⟨c1, c2, c3, c4, c5, c6, c7, c8, c9⟩ := hc
        unfold CPY
        rw [← hm]
        simp only [st3_K (show 9 ≠ 2 by omega), st3_K (show 27 ≠ 2 by omega), st3_K (show 30 ≠ 2 by omega), st3_K (show 31 ≠ 2 by omega), st3_K (show 32 ≠ 2 by omega), st3_K (show 33 ≠ 2 by omega), st3_K (show 5 ≠ 2 by omega), st3_K (show 4 ≠ 2 by omega)]
        refine ⟨fun K i' q => ?_, c2, c3, c4, c5, c6, c7, c8, c9⟩
        have := c1 K i' q
        funext f
        unfold st3
        split
        · rfl
        · exact congrFun this f
      obtain ⟨n', w', t', dd', HN⟩ := H0.take (μ1 := st3 μ 2 0 1 0) (v := v) (h' := 0) ⟨by omega, by omega⟩ hS h1 hc' vK v13 va (by omega) (by rw [st3_ua, ua_S]; rfl) (by rw [← hv, st3_ua, ua_S]; rfl)
      have d1 : m 9 0 1 = v 40 0 5 := by
        have z := HN.2.2.2.1.1
        exact z.2.2.2.2.1.trans z.2.2.2.2.2.1.symm
      refine ⟨_, _, m, v, eC, by rw [eM, d1], Or.inl ⟨rfl, ?_⟩, HN.gr, ?_, ?_, ?_⟩
      · rw [← hv, st3_ua, ua_N (by omega), cpM_K (by omega)]; exact th0
      · rw [← hm, st3_K (by omega), hc.1 12 0 (by unfold inS; omega)]
      · exact vK 49 (by omega) (by omega)
      · exact v13 28 (by omega) (by omega)
end Slots

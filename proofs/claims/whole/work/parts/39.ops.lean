/-! A request, days that pass, a happening: in the class and in the model. -/
theorem pig : ∀ (n w : Nat) (f : Nat → Nat), (∀ k, k < w → f k < n) → (∀ k k', k < w → k' < w → f k = f k' → k = k') → w ≤ n
  | 0, w, f, h, _ => by
    apply Classical.byContradiction
    intro z
    have := h 0 (by omega)
    omega
  | n + 1, w, f, h, hi => by
    by_cases e : ∃ k, k < w ∧ f k = n
    · obtain ⟨k0, hk0, e0⟩ := e
      have := pig n (w - 1) (fun k => if k = k0 then f (w - 1) else f k) (fun k hk => by
        show (if k = k0 then f (w - 1) else f k) < n
        split
        · rename_i ek
          have h1 := h (w - 1) (by omega)
          have h2 : f (w - 1) ≠ n := fun z => by have := hi (w - 1) k0 (by omega) hk0 (by omega); omega
          omega
        · rename_i ek
          have h1 := h k (by omega)
          have h2 : f k ≠ n := fun z => ek (hi k k0 (by omega) hk0 (by omega))
          omega) (fun k k' hk hk' z => by
        have z' : (if k = k0 then f (w - 1) else f k) = (if k' = k0 then f (w - 1) else f k') := z
        split at z' <;> split at z'
        · omega
        · have := hi (w - 1) k' (by omega) (by omega) z'; omega
        · have := hi k (w - 1) (by omega) (by omega) z'; omega
        · exact hi k k' (by omega) (by omega) z')
      omega
    · have := pig n w f (fun k hk => by
        have h1 := h k hk
        have h2 : f k ≠ n := fun z => e ⟨k, hk, z⟩
        omega) hi
      omega
theorem SHQ.room {qu a : Nat → Int32} {n w p : Nat} (h : SHQ qu a n w) (hn : n ≤ 24) (hp : p < n) (hq : ∀ k, k < w → a (500 + k) ≠ nI p) : w < n := by
  have hv : ∀ k, k < w → (a (500 + k)).toNatClampNeg < n ∧ a (500 + k) = nI (a (500 + k)).toNatClampNeg := fun k hk => by
    obtain ⟨-, v, hv, e⟩ := h.1 k hk
    rw [e, nI_clamp (by omega)]
    exact ⟨hv, rfl⟩
  have := pig n (w + 1) (fun k => if k < w then (a (500 + k)).toNatClampNeg else p) (fun k hk => by
    show (if k < w then (a (500 + k)).toNatClampNeg else p) < n
    split
    · exact (hv k (by assumption)).1
    · exact hp) (fun k k' hk hk' z => by
    have z' : (if k < w then (a (500 + k)).toNatClampNeg else p) = (if k' < w then (a (500 + k')).toNatClampNeg else p) := z
    split at z' <;> split at z'
    · rename_i h1 h2
      exact h.2 k k' h1 h2 (by rw [(hv k h1).2, (hv k' h2).2, z'])
    · rename_i h1 h2
      exact absurd (by rw [(hv k h1).2, z']) (hq k h1)
    · rename_i h1 h2
      exact absurd (by rw [(hv k' h2).2, ← z']) (hq k' h2)
    · omega)
  omega
section Ops
variable {μ ν : Mem} {j s E P C O n w t dd : Nat}
theorem SH_addQ {a : Nat → Int32} {p : Nat} (h : SH μ j a E P C O n w t dd) (hw : w < 24) (hC : C ≤ 8) (hO : O ≤ 5) (hp : p < n) (hq : ∀ k, k < w → a (500 + k) ≠ nI p) : SH (st3 (st3 μ 30 j w (nI p)) 9 j 8 (nI (w + 1))) j (ua (ua a (500 + w) (nI p)) 12 (nI (w + 1))) E P C O n (w + 1) t dd := by
  obtain ⟨h1, h2, h3, h4, h5, h6⟩ := h
  have hn : n ≤ 24 := h1.1
  have ht : t ≤ 60 := h1.2.2.1
  have A : ∀ k, k < 500 → k ≠ 12 → ua (ua a (500 + w) (nI p)) 12 (nI (w + 1)) k = a k := fun k h1 h2 => by rw [ua_N h2, ua_N (by omega)]
  unfold SH
  rw [st3_ua, st3_K (show 5 ≠ 9 by omega), st3_K (show 4 ≠ 9 by omega), st3_K (show 27 ≠ 9 by omega), st3_K (show 30 ≠ 9 by omega), st3_K (show 31 ≠ 9 by omega), st3_K (show 32 ≠ 9 by omega), st3_K (show 33 ≠ 9 by omega),
    st3_K (show 9 ≠ 30 by omega), st3_K (show 5 ≠ 30 by omega), st3_K (show 4 ≠ 30 by omega), st3_K (show 27 ≠ 30 by omega), st3_K (show 31 ≠ 30 by omega), st3_K (show 32 ≠ 30 by omega), st3_K (show 33 ≠ 30 by omega), st3_ua]
  refine ⟨?_, fun p hp => (h2 p hp).cong (fun _ _ => rfl) (fun f hf => A _ (by omega) (by omega)), ⟨fun o ho => (h3.1 o ho).cong (fun _ _ => rfl) (fun f hf => A _ (by omega) (by omega)), h3.2⟩, ⟨fun c hc => by rw [A _ (by omega) (by omega)]; exact h4.1 c hc, h4.2⟩, ⟨fun k hk => ?_, fun k k' hk hk' => ?_⟩, fun i hi => by rw [A _ (by omega) (by omega), A _ (by omega) (by omega), A _ (by omega) (by omega)]; exact h6 i hi⟩
  · exact Ss_wait (by omega) (h1.ua (k := 500 + w) (by omega))
  · by_cases e : k = w
    · subst e
      rw [ua_S, ua_N (by omega), ua_S]
      exact ⟨rfl, p, hp, rfl⟩
    · rw [ua_N e, ua_N (by omega), ua_N (by omega)]
      exact h5.1 k (by omega)
  · by_cases e : k = w <;> by_cases e' : k' = w
    · intro _; omega
    · subst e
      rw [ua_N (by omega), ua_S, ua_N (by omega), ua_N (by omega)]
      exact fun z => absurd z.symm (hq k' (by omega))
    · subst e'
      rw [ua_N (by omega), ua_N (by omega), ua_N (by omega), ua_S]
      exact fun z => absurd z (hq k (by omega))
    · rw [ua_N (by omega), ua_N (by omega), ua_N (by omega), ua_N (by omega)]
      exact h5.2 k k' (by omega) (by omega)
theorem inq_m1 {a : Nat → Int32} {x : Int32} (hw : w ≤ 24) (h : inq a x w = -1) : ∀ k, k < w → a (500 + k) ≠ x := by
  intro k hk
  rcases fdI_sp (P := fun k => decide (a (500 + k) = x)) (n := w) (i := 0) with ⟨-, h2⟩ | ⟨q, -, h1, -, h4, -⟩
  · exact of_decide_eq_false (h2 k (by omega) (by omega))
  · exact absurd (h4.symm.trans h) (ne_m1 (by omega))
theorem L_ask (h0 : μ 9 j 0 = nI s) (hT : ST μ s (ν 40 0) E P C O) (H : SH μ j (ν 40 0) E P C O n w t dd) (hdd : dd ≤ 9999) (h7 : ν 13 0 7 = 0) (x : Int32) :
    ∃ k km, OP j s E P C O n w t dd ν k km (f_Shop_faultOfRequest j x μ) (f_R_asking x ν) (fun m => f_Shop_addRequest j x m) ∧ (k = 0 ∨ (k = 1 ∧ km = 1) ∨ (k = 3 ∧ km = 2)) := by
  have hC : C ≤ 8 := hT.2.2.2.1
  have hO : O ≤ 5 := hT.2.2.2.2.1
  obtain ⟨hn, hw, ht, -, s1, a5, s2, s5, a10, s8, a12, -⟩ := H.1
  have hQ := H.2.2.2.2.1
  have eC : f_Shop_faultOfRequest j x μ = (if ixB x n = 0 then some 1 else if inq (ν 40 0) x w = -1 then some 0 else some 3) := by
    unfold f_Shop_faultOfRequest
    rw [C_hasSold s5 hn, bind_s, C_requestsBefore s8 hw hQ, bind_s]
  rcases ixB_c x (n := n) (by omega) with ⟨ec, -, -⟩ | ⟨ec, p, hp, rfl⟩
  · refine ⟨1, 1, ⟨by rw [eC, if_pos ec]; rfl, by omega, fun _ => ⟨by decide, ?_⟩, fun z => absurd z (by decide)⟩, Or.inr (Or.inl ⟨rfl, rfl⟩)⟩
    unfold f_R_asking
    rw [R_isProphecy a10 (by omega), bind_s, ec, right_0 h7 (by decide), bind_s, if_pos rfl]
  · rw [ec, if_neg (by decide)] at eC
    by_cases eq : inq (ν 40 0) (nI p) w = -1
    · rw [if_pos eq] at eC
      refine ⟨0, 0, ⟨eC, by omega, fun z => absurd rfl z, fun _ r hr h40 h13 => ?_⟩, Or.inl rfl⟩
      have hnq := inq_m1 hw eq
      have hwn : w < n := hQ.room hn hp hnq
      have b12 : r 40 0 12 = nI w := by rw [h40]; exact a12
      refine ⟨nI (w + 1), st3 (st3 r 40 0 (500 + w) (nI p)) 40 0 12 (nI (w + 1)), ?_, (FrN.rf.st (by unfold dynI; omega)).st (dyn_q (by omega)), fun μ' h0' hT' H' => ?_⟩
      · unfold f_R_asking
        rw [R_isProphecy a10 (by omega), bind_s, ec, right_1 h7, bind_s, if_neg n1_, snd_, R_inQueue a12 hw, bind_s, if_pos eq, bind_s, right_1 h7, bind_s, if_neg n1_, snd_, hr, bind_s, ib_12_524, chk_t, tn_12, b12, show (500 : Int32) + nI w = nI (500 + w) from nI_add 500 w, chk_of (inb_of (by omega) (by omega)), nI_clamp (by omega), nm_9, chk_t, chk_t, st3_ua, ua_N (by omega), b12, nI_1, nm_9, chk_t, st3_ua, ua_S]
      · obtain ⟨-, -, -, -, -, -, -, -, -, s8', -⟩ := H'.1
        refine ⟨st3 (st3 μ' 30 j w (nI p)) 9 j 8 (nI (w + 1)), n, w + 1, t, dd, ?_, hdd, ?_, (FrC.rf.stA (by omega)).st9 (by omega)⟩
        · show f_Shop_addRequest j (nI p) μ' = _
          unfold f_Shop_addRequest
          rw [s8', if_neg (gl_24 (by omega)), chk_of (inb_of (by omega) (by omega)), nI_clamp (by omega), nm_9, st3_K (show 9 ≠ 30 by omega), s8', nI_1, nm_9, st3_ua, ua_S]
        · rw [st3_ua, st3_ua, h40]
          exact SH_addQ H' (by omega) hC hO hp hnq
    · rw [if_neg eq] at eC
      refine ⟨3, 2, ⟨eC, by omega, fun _ => ⟨by decide, ?_⟩, fun z => absurd z (by decide)⟩, Or.inr (Or.inr ⟨rfl, rfl⟩)⟩
      unfold f_R_asking
      rw [R_isProphecy a10 (by omega), bind_s, ec, right_1 h7, bind_s, if_neg n1_, snd_, R_inQueue a12 hw, bind_s, if_neg eq, bind_s, right_0 h7 (by decide), bind_s, if_pos rfl]
theorem L_adv (hj : j < 12) (h0 : μ 9 j 0 = nI s) (hT : ST μ s (ν 40 0) E P C O) (H : SH μ j (ν 40 0) E P C O n w t dd) (hdd : dd ≤ 9999) (h7 : ν 13 0 7 = 0) (x : Int32) :
    ∃ k km, OP j s E P C O n w t dd ν k km (f_Shop_faultOfDays j x μ) (f_R_advancing x ν) (fun m => f_Shop_passDays j x m) ∧ (k = 0 ∨ (k = 2 ∧ km = 1) ∨ (k = 3 ∧ km = 2)) := by
  obtain ⟨hn, hw, ht, -, s1, a5, -⟩ := H.1
  have eC : f_Shop_faultOfDays j x μ = (if wi x 1 60 = 0 then some 2 else if nI dd + x ≤ 9999 then some 0 else some 3) := by
    unfold f_Shop_faultOfDays
    rw [C_within, bind_s, s1]
  rcases wi_01 x 1 60 with ew | ew
  · refine ⟨2, 1, ⟨by rw [eC, if_pos ew]; rfl, by omega, fun _ => ⟨by decide, ?_⟩, fun z => absurd z (by decide)⟩, Or.inr (Or.inl ⟨rfl, rfl⟩)⟩
    unfold f_R_advancing
    rw [R_within, bind_s, ew, right_0 h7 (by decide), bind_s, if_pos rfl]
  · rw [ew, if_neg (by decide)] at eC
    obtain ⟨d, hd1, hd2, rfl⟩ := wi_1 (a := 1) (b := 60) (by omega) (by omega) ew
    rw [nI_add] at eC
    by_cases hl : dd + d ≤ 9999
    · rw [if_pos (le_9999 hl)] at eC
      refine ⟨0, 0, ⟨eC, by omega, fun z => absurd rfl z, fun _ r hr h40 h13 => ?_⟩, Or.inl rfl⟩
      have hT9 : ∀ μ', ST μ' s (ν 40 0) E P C O → ST μ' s (r 40 0) E P C O := fun μ' z => by rw [h40]; exact z
      obtain ⟨m0, v, w0, e0, e1, -, -, F2⟩ := L_days (μ := μ) (ν := r) hj h0 (hT9 μ hT) (by rw [h40]; exact H) d (by omega) (f2 := fun q : Int32 × Mem => s_R_advancing_58 (nI d) (r 40 0 13) q.1 q.2) (fun i v => by show s_R_advancing_58 (nI d) (r 40 0 13) (nI i) v = _; unfold s_R_advancing_58; rfl)
      refine ⟨v 40 0 13 - r 40 0 13, v, ?_, F2, fun μ' h0' hT' H' => ?_⟩
      · unfold f_R_advancing
        rw [R_within, bind_s, ew, right_1 h7, bind_s, if_neg n1_, snd_, ib_5_524, chk_t, tn_5, a5, nI_add, if_neg (ng_9999 hl), bind_s, right_1 h7, bind_s, if_neg n1_, snd_, hr, bind_s, ib_13_524, chk_t, tn_13, nm_9, e1, bind_s, chk_t]
      · obtain ⟨m, v', w', e0', e1', H1, F1, -⟩ := L_days (μ := μ') (ν := r) hj h0' (hT9 μ' hT') (by rw [h40]; exact H') d (by omega) (f2 := fun q : Int32 × Mem => s_R_advancing_58 (nI d) (r 40 0 13) q.1 q.2) (fun i v => by show s_R_advancing_58 (nI d) (r 40 0 13) (nI i) v = _; unfold s_R_advancing_58; rfl)
        obtain rfl : v = v' := Option.some.inj (e1.symm.trans e1')
        refine ⟨m, n, w', t, dd + d, ?_, hl, H1, F1⟩
        show f_Shop_passDays j (nI d) μ' = _
        obtain ⟨-, -, -, -, -, -, -, -, -, -, -, -, -, z1, -⟩ := H1.1
        obtain ⟨-, -, -, -, -, -, -, -, -, -, -, -, -, z2, -⟩ := H'.1
        rw [e0', z1, z2, h40]
    · rw [if_neg (nle_9999 (by omega) (by omega))] at eC
      refine ⟨3, 2, ⟨eC, by omega, fun _ => ⟨by decide, ?_⟩, fun z => absurd z (by decide)⟩, Or.inr (Or.inr ⟨rfl, rfl⟩)⟩
      unfold f_R_advancing
      rw [R_within, bind_s, ew, right_1 h7, bind_s, if_neg n1_, snd_, ib_5_524, chk_t, tn_5, a5, nI_add, if_pos (gg_9999 (by omega) (by omega)), bind_s, right_0 h7 (by decide), bind_s, if_pos rfl]
theorem SH_addN {a : Nat → Int32} {e : Nat} {x p : Int32} (h : SH μ j a E P C O n w t dd) (ht : t < 60) (hC : C ≤ 8) (hO : O ≤ 5) (he : e < E) (hx : x = nI e) : SH (st3 (st3 (st3 (st3 μ 31 j t x) 32 j t p) 33 j t (nI dd)) 9 j 12 (nI (t + 1))) j (ua (ua (ua (ua a (320 + 3 * t) x) (320 + 3 * t + 1) p) (320 + 3 * t + 2) (nI dd)) 11 (nI (t + 1))) E P C O n w (t + 1) dd := by
  obtain ⟨h1, h2, h3, h4, h5, h6⟩ := h
  have hn : n ≤ 24 := h1.1
  have hw : w ≤ 24 := h1.2.1
  have hd : dd ≤ 20000 := h1.2.2.2.1
  have A : ∀ k, (k < 320 + 3 * t ∨ 320 + 3 * t + 3 ≤ k) → k ≠ 11 → ua (ua (ua (ua a (320 + 3 * t) x) (320 + 3 * t + 1) p) (320 + 3 * t + 2) (nI dd)) 11 (nI (t + 1)) k = a k := fun k h1 h2 => by rw [ua_N h2, ua_N (by omega), ua_N (by omega), ua_N (by omega)]
  unfold SH
  simp only [st3_ua, st3_K (show 5 ≠ 9 by omega), st3_K (show 4 ≠ 9 by omega), st3_K (show 27 ≠ 9 by omega), st3_K (show 30 ≠ 9 by omega), st3_K (show 31 ≠ 9 by omega), st3_K (show 32 ≠ 9 by omega), st3_K (show 33 ≠ 9 by omega),
    st3_K (show 9 ≠ 33 by omega), st3_K (show 5 ≠ 33 by omega), st3_K (show 4 ≠ 33 by omega), st3_K (show 27 ≠ 33 by omega), st3_K (show 30 ≠ 33 by omega), st3_K (show 31 ≠ 33 by omega), st3_K (show 32 ≠ 33 by omega),
    st3_K (show 9 ≠ 32 by omega), st3_K (show 5 ≠ 32 by omega), st3_K (show 4 ≠ 32 by omega), st3_K (show 27 ≠ 32 by omega), st3_K (show 30 ≠ 32 by omega), st3_K (show 31 ≠ 32 by omega), st3_K (show 33 ≠ 32 by omega),
    st3_K (show 9 ≠ 31 by omega), st3_K (show 5 ≠ 31 by omega), st3_K (show 4 ≠ 31 by omega), st3_K (show 27 ≠ 31 by omega), st3_K (show 30 ≠ 31 by omega), st3_K (show 32 ≠ 31 by omega), st3_K (show 33 ≠ 31 by omega)]
  refine ⟨?_, fun p hp => (h2 p hp).cong (fun _ _ => rfl) (fun f hf => A _ (by omega) (by omega)), ⟨fun o ho => (h3.1 o ho).cong (fun _ _ => rfl) (fun f hf => A _ (by omega) (by omega)), h3.2⟩, ⟨fun c hc => by rw [A _ (by omega) (by omega)]; exact h4.1 c hc, h4.2⟩, ⟨fun k hk => by rw [A _ (by omega) (by omega)]; exact h5.1 k hk, fun k k' hk hk' => by rw [A _ (by omega) (by omega), A _ (by omega) (by omega)]; exact h5.2 k k' hk hk'⟩, fun i hi => ?_⟩
  · exact Ss_note (by omega) (((h1.ua (by omega)).ua (by omega)).ua (by omega))
  · by_cases e9 : i = t
    · subst e9
      refine ⟨?_, ?_, ?_, ⟨e, he, ?_⟩, dd, hd, ?_⟩
      · rw [ua_S, ua_N (by omega), ua_N (by omega), ua_N (by omega)]; exact ua_S.symm
      · rw [ua_S, ua_N (by omega), ua_N (by omega), ua_S]
      · rw [ua_S, ua_N (by omega), ua_S]
      · rw [ua_N (by omega), ua_N (by omega), ua_N (by omega), ← hx]; exact ua_S
      · rw [ua_N (by omega), ua_S]
    · rw [ua_N e9, ua_N e9, ua_N e9, A _ (by omega) (by omega), A _ (by omega) (by omega), A _ (by omega) (by omega)]
      exact h6 i (by omega)
theorem C_about {q : Nat} {e p : Int32} {m : Mem} : f_Prophecy_isAbout q e p m = some (if m 5 q 2 = e then if m 5 q 1 = 1 then 1 else if m 5 q 3 = p then 1 else 0 else 0) := by
  unfold f_Prophecy_isAbout
  split
  · split
    · rfl
    · split <;> rfl
  · rfl
theorem R_hits {i : Nat} {e p : Int32} {v : Mem} (hi : i < 24) : f_R_hits (nI i) e p v = some (if v 40 0 (80 + 10 * i + 7) = 0 then if v 40 0 (80 + 10 * i + 1) = e then if v 40 0 5 < v 40 0 (80 + 10 * i + 4) then 0 else if v 40 0 (80 + 10 * i + 2) = -1 then 1 else if v 40 0 (80 + 10 * i + 2) = p then 1 else 0 else 0 else 0) := by
  unfold f_R_hits
  rw [R_of7 (by omega), bind_s, R_of1 (by omega), bind_s, R_of4 (by omega), bind_s, R_of2 (by omega), bind_s, bind_s, ib_5_524, chk_t, tn_5]
  split
  · split
    · split
      · rfl
      · split
        · rfl
        · split <;> rfl
    · rfl
  · rfl
/-- the happening decides -/
theorem L_hap (hC : C ≤ 8) (hO : O ≤ 5) (hP : P ≤ 6) (H : SH μ j (ν 40 0) E P C O n w t dd) (e p : Int32) : ∃ cnt μ' ν', it (fun s : Int32 × Int32 × Mem => s_Shop_noteHappening_57 j e p s.1 s.2.1 s.2.2) LIM (0, 0, μ) = some (cnt, μ') ∧ it (fun s : Int32 × Int32 × Mem => s_R_happening_136 e p s.1 s.2.1 s.2.2) LIM (0, 0, ν) = some (cnt, ν') ∧ SH μ' j (ν' 40 0) E P C O n w t dd ∧ FrC j μ μ' ∧ FrN ν ν' := by
  have hn : n ≤ 24 := H.1.1
  refine it_fr2 (f1 := fun s : Int32 × Int32 × Mem => s_Shop_noteHappening_57 j e p s.1 s.2.1 s.2.2) (f2 := fun s : Int32 × Int32 × Mem => s_R_happening_136 e p s.1 s.2.1 s.2.2) (a := (0, 0, μ)) (b := (0, 0, ν))
    (fun i a b => ∃ c m v, a = (c, nI i, m) ∧ b = (c, nI i, v) ∧ SH m j (v 40 0) E P C O n w t dd ∧ FrC j μ m ∧ FrN ν v) (fun a b => ∃ c m v, a = (c, m) ∧ b = (c, v) ∧ SH m j (v 40 0) E P C O n w t dd ∧ FrC j μ m ∧ FrN ν v) n 0 (Nat.zero_le _) (by omega) ⟨0, μ, ν, rfl, rfl, H, FrC.rf, FrN.rf⟩ ?_ ?_ (fun r1 r2 e1 e2 e3 => by obtain ⟨c, m, v, rfl, rfl, e4⟩ := e3; exact ⟨c, m, v, e1, e2, e4⟩)
  · rintro i hi _ _ ⟨c, m, v, rfl, rfl, H, F1, F2⟩
    left
    have hr := H.2.1 i hi
    obtain ⟨-, -, -, -, s1, a5, s2, s5, a10, -⟩ := H.1
    obtain ⟨k1, ⟨ev, hev, q2, b2⟩, kk, ⟨d4, hd4, q4, b4⟩, k5, k6, q7, k8, k9, k10⟩ := H.2.1 i hi
    replace q2 : m 5 (24 * j + i) 2 = v 40 0 (80 + 10 * i + 1) := q2.trans b2.symm
    replace q4 : m 5 (24 * j + i) 4 = v 40 0 (80 + 10 * i + 4) := q4.trans b4.symm
    replace q7 : m 5 (24 * j + i) 7 = v 40 0 (80 + 10 * i + 7) := q7
    have s1' : m 9 j 1 = v 40 0 5 := s1.trans a5.symm
    have fin : SH m j (v 40 0) E P C O n w t dd ∧ FrC j μ m ∧ FrN ν v := ⟨H, F1, F2⟩
    show ∃ a' b', s_Shop_noteHappening_57 j e p c (nI i) m = some (.inl a') ∧ s_R_happening_136 e p c (nI i) v = some (.inl b') ∧ _
    unfold s_Shop_noteHappening_57 s_R_happening_136
    rw [s5, if_neg (nI_ge hi (by omega)), chk_of (inb_of (by omega) (by omega)), chk_of (inb_of (by omega) (by omega)), chk_of (inb_of (by omega) (by omega)), chk_of (inb_of (by omega) (by omega)), nI_clamp (by omega), C_about, bind_s, q7, q4, s1', q2,
      ib_10_524, chk_t, tn_10, a10, if_neg (nI_ge hi (by omega)), R_hits (by omega), bind_s, nI_1, C_decide, bind_s, R_of3 (by omega), bind_s]
    by_cases c1 : v 40 0 (80 + 10 * i + 7) = 0
    · rw [if_pos c1, if_pos c1]
      by_cases c2 : v 40 0 5 < v 40 0 (80 + 10 * i + 4)
      · rw [if_pos c2, if_pos c2]
        refine ⟨_, _, rfl, ?_, c, m, v, rfl, rfl, fin⟩
        split <;> rfl
      · rw [if_neg c2, if_neg c2]
        by_cases c3 : v 40 0 (80 + 10 * i + 1) = e
        · rw [if_pos c3, if_pos c3]
          have c4 : (if m 5 (24 * j + i) 1 = 1 then (1 : Int32) else if m 5 (24 * j + i) 3 = p then 1 else 0) = (if v 40 0 (80 + 10 * i + 2) = -1 then 1 else if v 40 0 (80 + 10 * i + 2) = p then 1 else 0) := by
            rcases kk with ⟨g1, g2, g3, g4⟩ | ⟨g1, ⟨l, hl, g2, g3⟩, g4⟩ | ⟨g1, ⟨l, hl, g2, g3⟩, g4⟩
            · rw [show m 5 (24 * j + i) 1 = 1 from g1, g3]; rfl
            · rw [show m 5 (24 * j + i) 1 = 0 from g1, show m 5 (24 * j + i) 3 = nI l from g2, g3, if_neg (by decide), if_neg (ne_m1 (by omega))]
            · rw [show m 5 (24 * j + i) 1 = 2 from g1, show m 5 (24 * j + i) 3 = nI l from g2, g3, if_neg (by decide), if_neg (ne_m1 (by omega))]
          rw [c4]
          by_cases c5 : (if v 40 0 (80 + 10 * i + 2) = -1 then (1 : Int32) else if v 40 0 (80 + 10 * i + 2) = p then 1 else 0) = 0
          · rw [if_pos c5, if_pos c5]
            exact ⟨_, _, rfl, rfl, c, m, v, rfl, rfl, fin⟩
          · rw [if_neg c5, if_neg c5]
            have key : (if (1 : Int32) = (if m 5 (24 * j + i) 1 = 2 then 0 else 1) then (1 : Int32) else 2) = (if v 40 0 (80 + 10 * i + 3) = 0 then 1 else 2) := by
              rcases kk with ⟨g1, g2, g3, g4⟩ | ⟨g1, g2, g4⟩ | ⟨g1, g2, g4⟩
              · rw [show m 5 (24 * j + i) 1 = 1 from g1, g4]; rfl
              · rw [show m 5 (24 * j + i) 1 = 0 from g1, g4]; rfl
              · rw [show m 5 (24 * j + i) 1 = 2 from g1, g4]; rfl
            have e9 : ((if v 40 0 (80 + 10 * i + 3) = 0 then some (1 : Int32) else some 0).bind fun q4 => (f_R_decides (nI i) q4 v).bind fun r5 => some (Sum.inl (c + 1, nI (i + 1), r5))) = (some (Sum.inl (c + 1, nI (i + 1), st3 (st3 v 40 0 (80 + 10 * i + 7) (if v 40 0 (80 + 10 * i + 3) = 0 then 1 else 2)) 40 0 (80 + 10 * i + 8) (v 40 0 5))) : Option ((Int32 × Int32 × Mem) ⊕ (Int32 × Mem))) := by
              split
              · rw [bind_s, R_decides (by omega), bind_s, if_neg (by decide)]
              · rw [bind_s, R_decides (by omega), bind_s, if_pos rfl]
            rw [e9, key]
            generalize hv : (if v 40 0 (80 + 10 * i + 3) = 0 then (1 : Int32) else 2) = z
            have hz : z = 1 ∨ z = 2 := by subst hv; split; exact Or.inl rfl; exact Or.inr rfl
            refine ⟨_, _, rfl, rfl, c + 1, _, _, rfl, rfl, ?_, (F1.st5 (by omega)).st5 (by omega), (F2.st (dyn_row (by omega))).st (dyn_row (by omega))⟩
            refine H.setP i hi hC hO (fun K hK => by rw [st3_K hK, st3_K hK]) (fun p hp => by rw [st3_J (by omega), st3_J (by omega)]) (fun k hk => by rw [st3_two, ua_N (by omega), ua_N (by omega)]) ?_
            rw [st3_two, st3_two]
            exact hr.dec hz
        · rw [if_neg c3, if_neg c3, if_pos rfl, if_pos rfl]
          exact ⟨_, _, rfl, rfl, c, m, v, rfl, rfl, fin⟩
    · rw [if_neg c1, if_neg c1, if_pos rfl]
      exact ⟨_, _, rfl, rfl, c, m, v, rfl, rfl, fin⟩
  · rintro _ _ ⟨c, m, v, rfl, rfl, H, F1, F2⟩
    obtain ⟨-, -, -, -, s1, a5, s2, s5, a10, -⟩ := H.1
    show ∃ r1 r2, s_Shop_noteHappening_57 j e p c (nI n) m = some (.inr r1) ∧ s_R_happening_136 e p c (nI n) v = some (.inr r2) ∧ _
    unfold s_Shop_noteHappening_57 s_R_happening_136
    rw [s5, if_pos (nI_le (Nat.le_refl _) (by omega)), ib_10_524, chk_t, tn_10, a10, if_pos (nI_le (Nat.le_refl _) (by omega))]
    exact ⟨_, _, rfl, rfl, c, m, v, rfl, rfl, H, F1, F2⟩
theorem L_happen (h0 : μ 9 j 0 = nI s) (hT : ST μ s (ν 40 0) E P C O) (H : SH μ j (ν 40 0) E P C O n w t dd) (hdd : dd ≤ 9999) (h7 : ν 13 0 7 = 0) (xe xp : Int32) :
    ∃ k km, OP j s E P C O n w t dd ν k km (f_Shop_faultOfHappening j xe xp μ) (f_R_happening xe xp ν) (fun m => f_Shop_noteHappening j xe xp m) ∧ (k = 0 ∨ (k = 1 ∧ km = 1) ∨ (k = 3 ∧ km = 2)) := by
  have hT0 := hT
  obtain ⟨hs, hE, hP, hC, hO, ⟨t3, a6⟩, ⟨t4, a7⟩, -⟩ := hT
  obtain ⟨hn, hw, ht, -, s1, a5, s2, s5, a10, s8, a12, s12, a11, -⟩ := H.1
  have hN := H.2.2.2.2.2
  have eC : f_Shop_faultOfHappening j xe xp μ = (if ixB xe E = 0 then some 1 else if ixB xp P = 0 then some 1 else if (60 : Int32) ≤ nI t then some 3 else if (if hapd (ν 40 0) xe xp (nI dd) t = 0 then (0 : Int32) else 1) = 0 then some 0 else some 3) := by
    unfold f_Shop_faultOfHappening
    simp only [hS_of h0 hs, decide_eq_true hs, chk_t, C_has t3, C_has t4, bind_s, s12, s1, C_isNoted s12 ht hN]
  rcases ixB_c xe (n := E) (by omega) with ⟨ee, -, -⟩ | ⟨ee, e, he, hxe⟩
  · refine ⟨1, 1, ⟨by rw [eC, if_pos ee]; rfl, by omega, fun _ => ⟨by decide, ?_⟩, fun z => absurd z (by decide)⟩, Or.inr (Or.inl ⟨rfl, rfl⟩)⟩
    unfold f_R_happening
    rw [R_isEvent a6 (by omega), bind_s, ee, if_pos rfl, bind_s, right_0 h7 (by decide), bind_s, if_pos rfl]
  · rw [ee, if_neg (by decide)] at eC
    rcases ixB_c xp (n := P) (by omega) with ⟨ep, -, -⟩ | ⟨ep, -⟩
    · refine ⟨1, 1, ⟨by rw [eC, if_pos ep]; rfl, by omega, fun _ => ⟨by decide, ?_⟩, fun z => absurd z (by decide)⟩, Or.inr (Or.inl ⟨rfl, rfl⟩)⟩
      unfold f_R_happening
      rw [R_isEvent a6 (by omega), bind_s, ee, if_neg (by decide), R_isPlace a7 (by omega), bind_s, ep, if_pos rfl, bind_s, right_0 h7 (by decide), bind_s, if_pos rfl]
    · rw [ep, if_neg (by decide)] at eC
      have hle : hapd (ν 40 0) xe xp (nI dd) t ≤ t := ct_le
      have pre : ∀ z : Int32, (if nI (hapd (ν 40 0) xe xp (nI dd) t) = 0 then (if (60 : Int32) ≤ nI t then some 0 else some 1) else some 0 : Option Int32) = some z → ∀ F : Int32 → Option (Int32 × Mem), ((if nI (hapd (ν 40 0) xe xp (nI dd) t) = 0 then (if (60 : Int32) ≤ nI t then some 0 else some 1) else some 0 : Option Int32)).bind F = F z := fun z hz F => by rw [hz, bind_s]
      have no : ∀ z, (if nI (hapd (ν 40 0) xe xp (nI dd) t) = 0 then (if (60 : Int32) ≤ nI t then some 0 else some 1) else some 0 : Option Int32) = some z → z = 0 → f_R_happening xe xp ν = some (0, st3 ν 13 0 7 2) := by
        rintro z hz rfl
        unfold f_R_happening
        rw [R_isEvent a6 (by omega), bind_s, ee, if_neg (by decide), R_isPlace a7 (by omega), bind_s, ep, if_neg (by decide), bind_s, right_1 h7, bind_s, if_neg n1_, snd_, ib_5_524, chk_t, tn_5, a5, R_notedd (ne_m1 (show dd < 2 ^ 31 by omega)) a11 ht, bind_s, ib_11_524, chk_t, tn_11, a11, pre 0 hz, right_0 h7 (by decide), bind_s, if_pos rfl]
      by_cases c1 : (60 : Int32) ≤ nI t
      · rw [if_pos c1] at eC
        refine ⟨3, 2, ⟨eC, by omega, fun _ => ⟨by decide, no 0 ?_ rfl⟩, fun z => absurd z (by decide)⟩, Or.inr (Or.inr ⟨rfl, rfl⟩)⟩
        rw [if_pos c1]; split <;> rfl
      · rw [if_neg c1] at eC
        have ht60 : t < 60 := by apply Classical.byContradiction; intro z; exact c1 (lg_60 (by omega) (by omega))
        by_cases c2 : hapd (ν 40 0) xe xp (nI dd) t = 0
        · rw [if_pos c2, if_pos rfl] at eC
          refine ⟨0, 0, ⟨eC, by omega, fun z => absurd rfl z, fun _ r hr h40 h13 => ?_⟩, Or.inl rfl⟩
          have b11 : r 40 0 11 = nI t := by rw [h40]; exact a11
          have b5 : r 40 0 5 = nI dd := by rw [h40]; exact a5
          have i0 : (320 : Int32) + 3 * nI t = nI (320 + 3 * t) := by rw [show (320 : Int32) = nI 320 from rfl, show (3 : Int32) = nI 3 from rfl, pk_mul, nI_add]
          have i2 : nI (320 + 3 * t) + 2 = nI (320 + 3 * t + 2) := nI_add _ 2
          generalize hr4 : st3 (st3 (st3 (st3 r 40 0 (320 + 3 * t) xe) 40 0 (320 + 3 * t + 1) xp) 40 0 (320 + 3 * t + 2) (nI dd)) 40 0 11 (nI (t + 1)) = r4
          have r4row : r4 40 0 = ua (ua (ua (ua (ν 40 0) (320 + 3 * t) xe) (320 + 3 * t + 1) xp) (320 + 3 * t + 2) (nI dd)) 11 (nI (t + 1)) := by rw [← hr4, st3_ua, st3_ua, st3_ua, st3_ua, h40]
          have F4 : FrN r r4 := by rw [← hr4]; exact (((FrN.rf.st (by unfold dynI; omega)).st (by unfold dynI; omega)).st (by unfold dynI; omega)).st (dyn_q (by omega))
          have each : ∀ μ', μ' 9 j 0 = nI s → ST μ' s (ν 40 0) E P C O → SH μ' j (ν 40 0) E P C O n w t dd → ∃ cnt m v, f_Shop_noteHappening j xe xp μ' = some (cnt, m) ∧ it (fun s : Int32 × Int32 × Mem => s_R_happening_136 xe xp s.1 s.2.1 s.2.2) LIM (0, 0, r4) = some (cnt, v) ∧ SH m j (v 40 0) E P C O n w (t + 1) dd ∧ FrC j μ' m ∧ FrN r4 v := by
            intro μ' h0' hT' H'
            obtain ⟨-, -, -, -, s1', -, -, -, -, -, -, s12', -⟩ := H'.1
            have H1 := SH_addN (x := xe) (p := xp) H' ht60 hC hO he hxe
            rw [← r4row] at H1
            obtain ⟨cnt, m, v, e1, e2, H2, F1, F2⟩ := L_hap hC hO hP H1 xe xp
            refine ⟨cnt, m, v, ?_, e2, H2, ((((FrC.rf.stA (by omega)).stA (by omega)).stA (by omega)).st9 (by omega)).tr F1, F2⟩
            unfold f_Shop_noteHappening
            rw [s12', if_neg (gl_60 ht60), chk_of (inb_of ht60 (by omega)), nI_clamp (by omega)]
            simp only [nm_9, st3_K (show 9 ≠ 31 by omega), st3_K (show 9 ≠ 32 by omega), st3_K (show 9 ≠ 33 by omega), s12', chk_of (inb_of ht60 (by omega)), nI_clamp (show t < 2 ^ 31 by omega), s1', nI_1, bind_s, e1]
          obtain ⟨cnt, m0, v, -, e2, -, -, F2⟩ := each μ h0 hT0 H
          refine ⟨cnt, v, ?_, F4.tr F2, fun μ' h0' hT' H' => ?_⟩
          · unfold f_R_happening
            rw [R_isEvent a6 (by omega), bind_s, ee, if_neg (by decide), R_isPlace a7 (by omega), bind_s, ep, if_neg (by decide), bind_s, right_1 h7, bind_s, if_neg n1_, snd_, ib_5_524, chk_t, tn_5, a5, R_notedd (ne_m1 (show dd < 2 ^ 31 by omega)) a11 ht, bind_s, ib_11_524, chk_t, tn_11, a11, pre 1 (by rw [c2, if_neg c1]; rfl), right_1 h7, bind_s, if_neg n1_, snd_, hr, bind_s, chk_t, b11, i0]
            have u5 : st3 (st3 r 40 0 (320 + 3 * t) xe) 40 0 (320 + 3 * t + 1) xp 40 0 5 = nI dd := by rw [st3_ua, ua_N (by omega), st3_ua, ua_N (by omega)]; exact b5
            have u11 : st3 (st3 (st3 r 40 0 (320 + 3 * t) xe) 40 0 (320 + 3 * t + 1) xp) 40 0 (320 + 3 * t + 2) (nI dd) 40 0 11 = nI t := by rw [st3_ua, ua_N (by omega), st3_ua, ua_N (by omega), st3_ua, ua_N (by omega)]; exact b11
            simp only [nm_9, nI_1, i2, chk_of (inb_of (show 320 + 3 * t < 524 by omega) (by omega)), chk_of (inb_of (show 320 + 3 * t + 1 < 524 by omega) (by omega)), chk_of (inb_of (show 320 + 3 * t + 2 < 524 by omega) (by omega)), nI_clamp (show 320 + 3 * t < 2 ^ 31 by omega), nI_clamp (show 320 + 3 * t + 1 < 2 ^ 31 by omega), nI_clamp (show 320 + 3 * t + 2 < 2 ^ 31 by omega), chk_t, u5, u11, hr4, e2, bind_s]
          · obtain ⟨cnt', m, v', e1', e2', H2, F1, -⟩ := each μ' h0' hT' H'
            cases e2.symm.trans e2'
            exact ⟨m, n, w, t + 1, dd, e1', hdd, H2, F1⟩
        · rw [if_neg c2, if_neg (by decide)] at eC
          refine ⟨3, 2, ⟨eC, by omega, fun _ => ⟨by decide, no 0 ?_ rfl⟩, fun z => absurd z (by decide)⟩, Or.inr (Or.inr ⟨rfl, rfl⟩)⟩
          rw [if_neg (ne_0 (by omega) (by omega))]
end Ops

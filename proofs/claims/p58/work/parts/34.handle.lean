/-! The counter handles a request. -/
section Handle
variable {μ ν : Mem} {j s E P C O n w t dd : Nat}
theorem Ss_cash {s a : Nat → Int32} {x : Int32} (h : SHs s a n w t dd) : SHs (ua s 2 x) (ua a 0 x) n w t dd := by
  obtain ⟨b1, b2, b3, b4, s1, a5, s2, s5, a10, s8, a12, s12, a11, s13, s14⟩ := h
  have q : ∀ f, f ≠ 2 → ua s 2 x f = s f := fun f e => ua_N e
  have r : ∀ f, f ≠ 0 → ua a 0 x f = a f := fun f e => ua_N e
  have q0 : ua s 2 x 2 = x := ua_S
  have r0 : ua a 0 x 0 = x := ua_S
  exact ⟨b1, b2, b3, b4, (q 1 (by omega)).trans s1, (r 5 (by omega)).trans a5, q0.trans r0.symm, (q 5 (by omega)).trans s5, (r 10 (by omega)).trans a10, (q 8 (by omega)).trans s8, (r 12 (by omega)).trans a12, (q 12 (by omega)).trans s12, (r 11 (by omega)).trans a11, (q 13 (by omega)).trans (s13.trans (r 13 (by omega)).symm), (q 14 (by omega)).trans (s14.trans (r 14 (by omega)).symm)⟩
theorem Ss_paid {s a : Nat → Int32} {x : Int32} (h : SHs s a n w t dd) : SHs (ua s 14 x) (ua a 14 x) n w t dd := by
  obtain ⟨b1, b2, b3, b4, s1, a5, s2, s5, a10, s8, a12, s12, a11, s13, s14⟩ := h
  have q : ∀ f, f ≠ 14 → ua s 14 x f = s f := fun f e => ua_N e
  have r : ∀ f, f ≠ 14 → ua a 14 x f = a f := fun f e => ua_N e
  have q0 : ua s 14 x 14 = x := ua_S
  have r0 : ua a 14 x 14 = x := ua_S
  exact ⟨b1, b2, b3, b4, (q 1 (by omega)).trans s1, (r 5 (by omega)).trans a5, (q 2 (by omega)).trans (s2.trans (r 0 (by omega)).symm), (q 5 (by omega)).trans s5, (r 10 (by omega)).trans a10, (q 8 (by omega)).trans s8, (r 12 (by omega)).trans a12, (q 12 (by omega)).trans s12, (r 11 (by omega)).trans a11, (q 13 (by omega)).trans (s13.trans (r 13 (by omega)).symm), q0.trans r0.symm⟩
theorem Ss_hand {s a : Nat → Int32} {x : Int32} (h : SHs s a n w t dd) : SHs (ua s 13 x) (ua a 13 x) n w t dd := by
  obtain ⟨b1, b2, b3, b4, s1, a5, s2, s5, a10, s8, a12, s12, a11, s13, s14⟩ := h
  have q : ∀ f, f ≠ 13 → ua s 13 x f = s f := fun f e => ua_N e
  have r : ∀ f, f ≠ 13 → ua a 13 x f = a f := fun f e => ua_N e
  have q0 : ua s 13 x 13 = x := ua_S
  have r0 : ua a 13 x 13 = x := ua_S
  exact ⟨b1, b2, b3, b4, (q 1 (by omega)).trans s1, (r 5 (by omega)).trans a5, (q 2 (by omega)).trans (s2.trans (r 0 (by omega)).symm), (q 5 (by omega)).trans s5, (r 10 (by omega)).trans a10, (q 8 (by omega)).trans s8, (r 12 (by omega)).trans a12, (q 12 (by omega)).trans s12, (r 11 (by omega)).trans a11, q0.trans r0.symm, (q 14 (by omega)).trans (s14.trans (r 14 (by omega)).symm)⟩
theorem Ss_day {s a : Nat → Int32} {z : Nat} (hz : z ≤ 20000) (h : SHs s a n w t dd) : SHs (ua s 1 (nI z)) (ua a 5 (nI z)) n w t z := by
  obtain ⟨b1, b2, b3, b4, s1, a5, s2, s5, a10, s8, a12, s12, a11, s13, s14⟩ := h
  have q : ∀ f, f ≠ 1 → ua s 1 (nI z) f = s f := fun f e => ua_N e
  have r : ∀ f, f ≠ 5 → ua a 5 (nI z) f = a f := fun f e => ua_N e
  have q0 : ua s 1 (nI z) 1 = (nI z) := ua_S
  have r0 : ua a 5 (nI z) 5 = (nI z) := ua_S
  exact ⟨b1, b2, b3, hz, q0, r0, (q 2 (by omega)).trans (s2.trans (r 0 (by omega)).symm), (q 5 (by omega)).trans s5, (r 10 (by omega)).trans a10, (q 8 (by omega)).trans s8, (r 12 (by omega)).trans a12, (q 12 (by omega)).trans s12, (r 11 (by omega)).trans a11, (q 13 (by omega)).trans (s13.trans (r 13 (by omega)).symm), (q 14 (by omega)).trans (s14.trans (r 14 (by omega)).symm)⟩
theorem Ss_wait {s a : Nat → Int32} {z : Nat} (hz : z ≤ 24) (h : SHs s a n w t dd) : SHs (ua s 8 (nI z)) (ua a 12 (nI z)) n z t dd := by
  obtain ⟨b1, b2, b3, b4, s1, a5, s2, s5, a10, s8, a12, s12, a11, s13, s14⟩ := h
  have q : ∀ f, f ≠ 8 → ua s 8 (nI z) f = s f := fun f e => ua_N e
  have r : ∀ f, f ≠ 12 → ua a 12 (nI z) f = a f := fun f e => ua_N e
  have q0 : ua s 8 (nI z) 8 = (nI z) := ua_S
  have r0 : ua a 12 (nI z) 12 = (nI z) := ua_S
  exact ⟨b1, hz, b3, b4, (q 1 (by omega)).trans s1, (r 5 (by omega)).trans a5, (q 2 (by omega)).trans (s2.trans (r 0 (by omega)).symm), (q 5 (by omega)).trans s5, (r 10 (by omega)).trans a10, q0, r0, (q 12 (by omega)).trans s12, (r 11 (by omega)).trans a11, (q 13 (by omega)).trans (s13.trans (r 13 (by omega)).symm), (q 14 (by omega)).trans (s14.trans (r 14 (by omega)).symm)⟩
theorem Ss_sold {s a : Nat → Int32} {z : Nat} (hz : z ≤ 24) (h : SHs s a n w t dd) : SHs (ua s 5 (nI z)) (ua a 10 (nI z)) z w t dd := by
  obtain ⟨b1, b2, b3, b4, s1, a5, s2, s5, a10, s8, a12, s12, a11, s13, s14⟩ := h
  have q : ∀ f, f ≠ 5 → ua s 5 (nI z) f = s f := fun f e => ua_N e
  have r : ∀ f, f ≠ 10 → ua a 10 (nI z) f = a f := fun f e => ua_N e
  have q0 : ua s 5 (nI z) 5 = (nI z) := ua_S
  have r0 : ua a 10 (nI z) 10 = (nI z) := ua_S
  exact ⟨hz, b2, b3, b4, (q 1 (by omega)).trans s1, (r 5 (by omega)).trans a5, (q 2 (by omega)).trans (s2.trans (r 0 (by omega)).symm), q0, r0, (q 8 (by omega)).trans s8, (r 12 (by omega)).trans a12, (q 12 (by omega)).trans s12, (r 11 (by omega)).trans a11, (q 13 (by omega)).trans (s13.trans (r 13 (by omega)).symm), (q 14 (by omega)).trans (s14.trans (r 14 (by omega)).symm)⟩
theorem Ss_note {s a : Nat → Int32} {z : Nat} (hz : z ≤ 60) (h : SHs s a n w t dd) : SHs (ua s 12 (nI z)) (ua a 11 (nI z)) n w z dd := by
  obtain ⟨b1, b2, b3, b4, s1, a5, s2, s5, a10, s8, a12, s12, a11, s13, s14⟩ := h
  have q : ∀ f, f ≠ 12 → ua s 12 (nI z) f = s f := fun f e => ua_N e
  have r : ∀ f, f ≠ 11 → ua a 11 (nI z) f = a f := fun f e => ua_N e
  have q0 : ua s 12 (nI z) 12 = (nI z) := ua_S
  have r0 : ua a 11 (nI z) 11 = (nI z) := ua_S
  exact ⟨b1, b2, hz, b4, (q 1 (by omega)).trans s1, (r 5 (by omega)).trans a5, (q 2 (by omega)).trans (s2.trans (r 0 (by omega)).symm), (q 5 (by omega)).trans s5, (r 10 (by omega)).trans a10, (q 8 (by omega)).trans s8, (r 12 (by omega)).trans a12, q0, r0, (q 13 (by omega)).trans (s13.trans (r 13 (by omega)).symm), (q 14 (by omega)).trans (s14.trans (r 14 (by omega)).symm)⟩

/-- a stretch moved one place down -/
def shf (a : Nat → Int32) (b n : Nat) : Nat → Int32 := fun f => if b ≤ f ∧ f < b + n then a (f + 1) else a f
def shM (μ : Mem) (K j b n : Nat) : Mem := fun K' j' => if K' = K ∧ j' = j then shf (μ K j) b n else μ K' j'
theorem shM_0 {K b : Nat} : shM μ K j b 0 = μ := by
  funext K' j' f
  unfold shM shf
  split
  · rename_i h; obtain ⟨rfl, rfl⟩ := h; show (if b ≤ f ∧ f < b + 0 then _ else _) = _; rw [if_neg (by omega)]
  · rfl
theorem shM_K {K b i K' : Nat} (h : K' ≠ K) : shM μ K j b i K' = μ K' := by
  funext j'; unfold shM; rw [if_neg (fun z => h z.1)]
theorem shM_J {K b i j' : Nat} (h : j' ≠ j) : shM μ K j b i K j' = μ K j' := by
  unfold shM; rw [if_neg (fun z => h z.2)]
theorem shM_S {K b i : Nat} : shM μ K j b i K j = shf (μ K j) b i := by
  unfold shM; rw [if_pos ⟨rfl, rfl⟩]
theorem shf_in {a : Nat → Int32} {b m f : Nat} (h1 : b ≤ f) (h2 : f < b + m) : shf a b m f = a (f + 1) := if_pos ⟨h1, h2⟩
theorem shf_out {a : Nat → Int32} {b m f : Nat} (h : f < b ∨ b + m ≤ f) : shf a b m f = a f := if_neg (by omega)
theorem shM_st {K b i : Nat} : st3 (shM μ K j b i) K j (b + i) (shM μ K j b i K j (b + i + 1)) = shM μ K j b (i + 1) := by
  funext K' j' f
  by_cases h : K' = K ∧ j' = j
  · obtain ⟨rfl, rfl⟩ := h
    rw [st3_ua, shM_S, shM_S, shf_out (f := b + i + 1) (by omega)]
    by_cases e : f = b + i
    · subst e; rw [ua_S, shf_in (by omega) (by omega)]
    · rw [ua_N e]
      by_cases e2 : b ≤ f ∧ f < b + i
      · rw [shf_in e2.1 e2.2, shf_in e2.1 (by omega)]
      · rw [shf_out (by omega), shf_out (by omega)]
  · unfold st3
    rw [if_neg (by rintro ⟨h1, h2, -⟩; exact h ⟨h1, h2⟩)]
    unfold shM
    rw [if_neg h, if_neg h]
theorem C_remove (h8 : μ 9 j 8 = nI (w + 1)) (hw : w + 1 ≤ 24) : f_Shop_removeFirstRequest j μ = some (st3 (shM μ 30 j 0 w) 9 j 8 (nI w)) := by
  unfold f_Shop_removeFirstRequest
  refine it_fr (f := fun s : Int32 × Mem => s_Shop_removeFirstRequest_2 j s.1 s.2) (s := (1, μ)) (fun i q => q = (nI (i + 1), shM μ 30 j 0 i)) (fun q => q = shM μ 30 j 0 w) w 0 (by omega) (by omega) (by rw [shM_0]; rfl) ?_ ?_ ?_
  · rintro i hi _ rfl
    refine ⟨_, ?_, rfl⟩
    show s_Shop_removeFirstRequest_2 j (nI (i + 1)) (shM μ 30 j 0 i) = _
    unfold s_Shop_removeFirstRequest_2
    rw [shM_K (show 9 ≠ 30 by omega), h8, if_neg (nI_ge (by omega) (by omega)), chk_of (inb_of (by omega) (by omega)), show nI (i + 1) - 1 = nI i from nI_pred i, chk_of (inb_of (by omega) (by omega)), nI_clamp (by omega), nI_clamp (by omega), nm_9, nI_1]
    have e := shM_st (μ := μ) (K := 30) (j := j) (b := 0) (i := i)
    rw [Nat.zero_add] at e
    rw [e]
  · rintro _ rfl
    refine ⟨_, ?_, rfl⟩
    show s_Shop_removeFirstRequest_2 j (nI (w + 1)) (shM μ 30 j 0 w) = _
    unfold s_Shop_removeFirstRequest_2
    rw [shM_K (show 9 ≠ 30 by omega), h8, if_pos (nI_le (Nat.le_refl _) (by omega))]
  · rintro _ e rfl
    rw [e, bind_s, shM_K (show 9 ≠ 30 by omega), h8, nI_pred]
    rfl
theorem SH_rem {a : Nat → Int32} (h : SH μ j a E P C O n (w + 1) t dd) (hC : C ≤ 8) (hO : O ≤ 5) : SH (st3 (shM μ 30 j 0 w) 9 j 8 (nI w)) j (ua (shf a 500 w) 12 (nI w)) E P C O n w t dd := by
  obtain ⟨h1, h2, h3, h4, h5, h6⟩ := h
  have hn : n ≤ 24 := h1.1
  have hw : w + 1 ≤ 24 := h1.2.1
  have ht : t ≤ 60 := h1.2.2.1
  have A : ∀ k, k < 500 → k ≠ 12 → ua (shf a 500 w) 12 (nI w) k = a k := fun k h1 h2 => by rw [ua_N h2, shf_out (by omega)]
  unfold SH
  rw [st3_ua, st3_K (show 5 ≠ 9 by omega), st3_K (show 4 ≠ 9 by omega), st3_K (show 27 ≠ 9 by omega), st3_K (show 30 ≠ 9 by omega), st3_K (show 31 ≠ 9 by omega), st3_K (show 32 ≠ 9 by omega), st3_K (show 33 ≠ 9 by omega),
    shM_K (show 9 ≠ 30 by omega), shM_K (show 5 ≠ 30 by omega), shM_K (show 4 ≠ 30 by omega), shM_K (show 27 ≠ 30 by omega), shM_K (show 31 ≠ 30 by omega), shM_K (show 32 ≠ 30 by omega), shM_K (show 33 ≠ 30 by omega), shM_S]
  refine ⟨?_, fun p hp => (h2 p hp).cong (fun _ _ => rfl) (fun f hf => A _ (by omega) (by omega)), ⟨fun o ho => (h3.1 o ho).cong (fun _ _ => rfl) (fun f hf => A _ (by omega) (by omega)), h3.2⟩, ⟨fun c hc => by rw [A _ (by omega) (by omega)]; exact h4.1 c hc, h4.2⟩, ⟨fun k hk => ?_, fun k k' hk hk' => ?_⟩, fun i hi => by rw [A _ (by omega) (by omega), A _ (by omega) (by omega), A _ (by omega) (by omega)]; exact h6 i hi⟩
  · have h9 : SHs (μ 9 j) (shf a 500 w) n (w + 1) t dd := by
      unfold SHs at h1 ⊢
      rw [shf_out (by omega), shf_out (by omega), shf_out (by omega), shf_out (by omega), shf_out (by omega), shf_out (by omega), shf_out (by omega)]
      exact h1
    exact Ss_wait (by omega) h9
  · rw [shf_in (by omega) (by omega), ua_N (by omega), shf_in (by omega) (by omega)]
    exact h5.1 (k + 1) (by omega)
  · rw [ua_N (by omega), ua_N (by omega), shf_in (by omega) (by omega), shf_in (by omega) (by omega)]
    intro e
    have := h5.2 (k + 1) (k' + 1) (by omega) (by omega) e
    omega
theorem C_flight {c o d v : Nat} (hO : O ≤ 5) (hC : C ≤ 8) (h7 : μ 7 s 11 = nI O) (h3 : μ 3 (3 * s + 2) 1 = nI C) (ho : o < O) (hc : c < C) (hd : μ 25 s c = nI d) (hd2 : d ≤ 30) (hv : μ 26 s o = nI v) (hv1 : 1 ≤ v) (hv2 : v ≤ 9) : f_Setup_flightDays s (nI o) (nI c) μ = some (nI ((d + v - 1) / v)) := by
  unfold f_Setup_flightDays
  rw [if_neg (nI_pos (by omega)), h7, if_neg (nI_ge ho (by omega)), chk_of (inb_of (by omega) (by omega)), bind_s, nI_clamp (by omega), hv, if_neg (nl_1 hv1 (by omega)), C_has h3, ixB_in (by omega) hc, bind_s, if_neg (by decide), chk_of (inb_of (by omega) (by omega)), chk_of (decide_eq_true (ne_0 (by omega) (by omega))), nI_clamp (by omega), hd, nI_add]
  congr 1
  rw [show (1 : Int32) = nI 1 from rfl, pk_sub (by omega), pk_div (by omega) (by omega) (by omega)]
theorem rfd_ua {a : Nat → Int32} {b k : Nat} {x : Int32} (h : k ≠ b + 6 ∧ k ≠ b + 2 ∧ k ≠ 4 ∧ k ≠ 3) : rfd (ua a k x) b = rfd a b := by
  unfold rfd
  rw [ua_N (by omega), ua_N (by omega), ua_N (by omega), ua_N (by omega)]
theorem C_pay {q b o c d v : Nat} {r : Int32} (hj : j < 12) (h0 : μ 9 j 0 = nI s) (hs : s < 2) (hr : f_Shop_refundFor j q μ = some r) (hO : O ≤ 5) (hC : C ≤ 8) (h7 : μ 7 s 11 = nI O) (h3 : μ 3 (3 * s + 2) 1 = nI C) (ho : o < O) (hc : c < C) (hq : μ 5 q 0 = nI c) (hd : μ 25 s c = nI d) (hd2 : d ≤ 30) (hv : μ 26 s o = nI v) (hv1 : 1 ≤ v) (hv2 : v ≤ 9) :
    f_Shop_pay j q (nI o) μ = some (st3 (st3 (st3 (st3 (st3 (st3 (st3 (st3 μ 9 j 2 (μ 9 j 2 - r)) 9 j 14 (μ 9 j 14 + r)) 5 q 7 3) 4 (5 * j + o) 2 (nI c)) 4 (5 * j + o) 1 r) 4 (5 * j + o) 3 (nI ((d + v - 1) / v))) 4 (5 * j + o) 0 (nI ((d + v - 1) / v))) 4 (5 * j + o) 4 1) := by
  unfold f_Shop_pay
  rw [hr, bind_s, nm_9, nm_9, nm_9, C_owlWith (by omega), bind_s, chk_of (decide_eq_true (by omega))]
  have e1 : st3 μ 9 j 2 (μ 9 j 2 - r) 9 j 14 = μ 9 j 14 := by rw [st3_ua, ua_N (by omega)]
  rw [e1]
  generalize hm : st3 (st3 (st3 μ 9 j 2 (μ 9 j 2 - r)) 9 j 14 (μ 9 j 14 + r)) 5 q 7 3 = m
  have g9 : m 9 j 0 = nI s := by rw [← hm, st3_K (by omega), st3_ua, ua_N (by omega), st3_ua, ua_N (by omega)]; exact h0
  have gK : ∀ K, K ≠ 9 → K ≠ 5 → m K = μ K := fun K k1 k2 => by rw [← hm, st3_K k2, st3_K k1, st3_K k1]
  have g5 : m 5 q 0 = nI c := by rw [← hm, st3_ua, ua_N (by omega), st3_K (by omega), st3_K (by omega)]; exact hq
  rw [hS_of g9 hs, chk_of (decide_eq_true hs), g5, C_flight (μ := m) (O := O) (C := C) hO hC (by rw [gK 7 (by omega) (by omega)]; exact h7) (by rw [gK 3 (by omega) (by omega)]; exact h3) ho hc (d := d) (v := v) (by rw [gK 25 (by omega) (by omega)]; exact hd) hd2 (by rw [gK 26 (by omega) (by omega)]; exact hv) hv1 hv2, bind_s]
  rfl
end Handle

section HandleO
variable {c0 : Int32} {b : Nat} {ν : Mem} {w : Nat}
theorem st3_h {μ : Mem} {K j f : Nat} {x : Int32} : st3 μ K j f x K j f = x := by
  unfold st3
  exact if_pos ⟨rfl, rfl, rfl⟩
theorem st3_f {μ : Mem} {K j f f' : Nat} {x : Int32} (h : f' ≠ f) : st3 μ K j f x K j f' = μ K j f' := by
  unfold st3
  rw [if_neg (fun z => h z.2.2)]
theorem O_shift (x1 v2 r3 r4 : Int32) (h12 : ν 60 b 12 = nI w) (hw : w < 24) : it (fun s : Int32 × Mem => s_Own_passes_279 b x1 v2 r3 r4 s.1 s.2) LIM (0, ν) = some (shM ν 77 b 0 w) := by
  refine it_fr (f := fun s : Int32 × Mem => s_Own_passes_279 b x1 v2 r3 r4 s.1 s.2) (s := (0, ν)) (fun i q => q = (nI i, shM ν 77 b 0 i)) (fun q => q = shM ν 77 b 0 w) w 0 (by omega) (by omega) (by rw [shM_0]; rfl) ?_ ?_ (fun r e h => by rw [e, h])
  · rintro i hi _ rfl
    refine ⟨_, ?_, rfl⟩
    show s_Own_passes_279 b x1 v2 r3 r4 (nI i) (shM ν 77 b 0 i) = _
    unfold s_Own_passes_279
    rw [shM_K (show 60 ≠ 77 by omega), h12, if_neg (nI_ge hi (by omega)), nI_1, chk_of (inb_of (by omega) (by omega)), chk_of (inb_of (by omega) (by omega)), nI_clamp (by omega), nI_clamp (by omega), nm_9]
    have e := shM_st (μ := ν) (K := 77) (j := b) (b := 0) (i := i)
    rw [Nat.zero_add] at e
    rw [e]
  · rintro _ rfl
    refine ⟨_, ?_, rfl⟩
    show s_Own_passes_279 b x1 v2 r3 r4 (nI w) (shM ν 77 b 0 w) = _
    unfold s_Own_passes_279
    rw [shM_K (show 60 ≠ 77 by omega), h12, if_pos (nI_le (Nat.le_refl _) (by omega))]
theorem rO_sh : rO c0 b (shM ν 77 b 0 w) = shf (rO c0 b ν) 500 w := by
  funext k
  by_cases hk : k < 500
  · rw [shf_out (by omega)]
    unfold rO
    by_cases h1 : (decR k).1 = 0
    · rw [if_pos h1, if_pos h1]
    · rw [if_neg h1, if_neg h1]
      by_cases h2 : (decR k).1 = 79
      · rw [if_pos h2, if_pos h2, shM_K (by omega)]
      · rw [if_neg h2, if_neg h2, shM_K]
        intro h3
        have h4 := encR_dec h1 h2
        rw [h3] at h4
        unfold encR at h4
        rw [if_neg (by omega), if_neg (by omega), if_neg (by omega), if_neg (by omega), if_neg (by omega), if_pos rfl] at h4
        omega
  · obtain ⟨q, rfl⟩ : ∃ q, k = 500 + q := ⟨k - 500, by omega⟩
    rw [ro_q, shM_S]
    by_cases h : q < w
    · rw [shf_in (by omega) (by omega), shf_in (by omega) (by omega), Nat.add_assoc, ro_q]
    · rw [shf_out (by omega), shf_out (by omega), ro_q]
theorem fly9 {d v : Nat} (hd : d ≤ 30) (hv1 : 1 ≤ v) (hv2 : v ≤ 9) : nI d / nI v + (if nI d - nI d / nI v * nI v ≤ 0 then 0 else 1) = nI ((d + v - 1) / v) := by
  have h9 : ∀ d, d < 31 → ∀ v, v < 9 → Int32.ofNat d / Int32.ofNat (v + 1) + (if Int32.ofNat d - Int32.ofNat d / Int32.ofNat (v + 1) * Int32.ofNat (v + 1) ≤ 0 then (0 : Int32) else 1) = Int32.ofNat ((d + (v + 1) - 1) / (v + 1)) := by decide +kernel
  have := h9 d (by omega) (v - 1) (by omega)
  rw [show v - 1 + 1 = v by omega] at this
  exact this
theorem O_refund_m {m : Mem} {x : Int32} (e70 : m 70 b = ν 70 b) (e73 : m 73 b = ν 73 b) (e3 : m 60 b 3 = ν 60 b 3) (e4 : m 60 b 4 = ν 60 b 4) : f_Own_refund b x m = f_Own_refund b x ν := by
  unfold f_Own_refund
  rw [e70, e73, e3, e4]
end HandleO

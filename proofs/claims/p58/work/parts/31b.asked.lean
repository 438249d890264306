/-! What the law's own shop answers, read off its row; what holds of the row at any time. -/
/-- sums over a row; which numbers belong together -/
def CI (a : Nat → Int32) (C O n : Nat) : Prop :=
  a 15 = a 0 + sm (fun c => a (28 + 3 * c + 1)) C + sm (fun o => a (52 + 5 * o + 2)) O ∧
  a 14 = sm (fun p => if a (80 + 10 * p + 7) = 3 then rfd a (80 + 10 * p) else 0) n ∧
  (∀ o, o < O → a (52 + 5 * o + 3) = -1 ∨ ((∃ d, 1 ≤ d ∧ d ≤ 60 ∧ a (52 + 5 * o + 1) = nI d) ∧ ∃ d, 1 ≤ d ∧ d ≤ 60 ∧ a (52 + 5 * o + 4) = nI d)) ∧
  (∀ p, p < n → a (80 + 10 * p + 7) ≠ 0 → ∃ d, d ≤ 20000 ∧ a (80 + 10 * p + 8) = nI d) ∧ ∃ g, g ≤ 99 ∧ a 2 = nI g
/-- no open prophecy is overdue -/
def OVD (a : Nat → Int32) (n dd : Nat) : Prop := ∀ p, p < n → a (80 + 10 * p + 7) = 0 → ∃ u, dd ≤ u ∧ u ≤ 20000 ∧ a (80 + 10 * p + 5) = nI u
/-- what has happened: six times the event, and the place -/
def NI (v : Mem) (b t : Nat) : Prop := ∀ i, i < t → ∃ e p, e < 6 ∧ p < 6 ∧ v 79 b i = nI (6 * e + p)
def irr (k : Nat) : Prop := k = 5 ∨ (10 ≤ k ∧ k ≤ 13) ∨ (80 ≤ k ∧ k < 320 ∧ k % 10 = 9) ∨ 320 ≤ k
theorem rfd_cong {a a' : Nat → Int32} {b : Nat} (h6 : a' (b + 6) = a (b + 6)) (h2 : a' (b + 2) = a (b + 2)) (h3 : a' 3 = a 3) (h4 : a' 4 = a 4) : rfd a' b = rfd a b := by
  unfold rfd
  rw [h6, h2, h3, h4]
theorem CI.cong {a a' : Nat → Int32} {C O n : Nat} (h : CI a C O n) (hC : C ≤ 8) (hO : O ≤ 5) (hn : n ≤ 24) (e : ∀ k, ¬ irr k → a' k = a k) : CI a' C O n := by
  obtain ⟨h1, h2, h3, h4, h5⟩ := h
  refine ⟨?_, ?_, fun o ho => ?_, fun p hp => ?_, ?_⟩
  · rw [e 15 (by unfold irr; omega), e 0 (by unfold irr; omega), sm_congr (g' := fun c => a (28 + 3 * c + 1)) (fun c hc => e _ (by unfold irr; omega)), sm_congr (g' := fun o => a (52 + 5 * o + 2)) (fun o ho => e _ (by unfold irr; omega))]
    exact h1
  · rw [e 14 (by unfold irr; omega), sm_congr (g' := fun p => if a (80 + 10 * p + 7) = 3 then rfd a (80 + 10 * p) else 0) (fun p hp => by
      show (if a' (80 + 10 * p + 7) = 3 then rfd a' (80 + 10 * p) else 0) = _
      rw [e (80 + 10 * p + 7) (by unfold irr; omega), rfd_cong (e _ (by unfold irr; omega)) (e _ (by unfold irr; omega)) (e _ (by unfold irr; omega)) (e _ (by unfold irr; omega))])]
    exact h2
  · rw [e (52 + 5 * o + 3) (by unfold irr; omega), e (52 + 5 * o + 1) (by unfold irr; omega), e (52 + 5 * o + 4) (by unfold irr; omega)]
    exact h3 o ho
  · rw [e (80 + 10 * p + 7) (by unfold irr; omega), e (80 + 10 * p + 8) (by unfold irr; omega)]
    exact h4 p hp
  · rw [e 2 (by unfold irr; omega)]
    exact h5
theorem CI.skip {a : Nat → Int32} {C O n k : Nat} {x : Int32} (h : CI a C O n) (hC : C ≤ 8) (hO : O ≤ 5) (hn : n ≤ 24) (hk : irr k) : CI (ua a k x) C O n := h.cong hC hO hn (fun i hi => ua_N (fun z => hi (z ▸ hk)))
theorem sm_ua {g : Nat → Int32} {k : Nat} {x : Int32} : ∀ {n : Nat}, k < n → sm (fun i => if i = k then x else g i) n = sm g n + (x - g k)
  | 0, h => by omega
  | n + 1, h => by
    show sm _ n + (if n = k then x else g n) = sm g n + g n + (x - g k)
    by_cases e : n = k
    · subst e
      rw [if_pos rfl, sm_congr (g' := g) (fun i hi => if_neg (by omega))]
      rw [Int32.add_assoc]
      congr 1
      rw [Int32.add_comm, Int32.sub_add_cancel]
    · rw [if_neg e, sm_ua (n := n) (by omega), Int32.add_assoc, Int32.add_assoc, Int32.add_comm (x - g k)]
theorem i0le {k : Nat} (h : k < 2 ^ 31) : (0 : Int32) ≤ nI k := nI_le (a := 0) (Nat.zero_le _) h
section Own
variable {c0 : Int32} {μ v : Mem} {b s E P C O n w t dd : Nat}
theorem O_refund {p : Nat} (hn : n ≤ 24) (hp : p < n) (hr : ∃ q, rowP q (rO c0 b v) (80 + 10 * p) E P C) (hP : P ≤ 6) : f_Own_refund b (nI p) v = some (rfd (rO c0 b v) (80 + 10 * p)) := by
  obtain ⟨q, -, -, hk, -⟩ := hr
  have h24 : p < 24 := by omega
  rw [ro_p2 h24] at hk
  unfold f_Own_refund rfd
  rw [chk_of (inb_of h24 (by omega)), chk_of (inb_of h24 (by omega)), nI_clamp (by omega), ro_p6 h24, ro_p2 h24, ro_0 (by omega), ro_0 (by omega)]
  rcases hk with ⟨-, -, k3, -⟩ | ⟨-, ⟨l, hl, -, k3⟩, -⟩ | ⟨-, ⟨l, hl, -, k3⟩, -⟩
  · rw [k3, if_neg (by decide), if_pos rfl]
  · rw [k3, if_pos (i0le (by omega)), if_neg (ne_m1 (by omega))]
  · rw [k3, if_pos (i0le (by omega)), if_neg (ne_m1 (by omega))]
theorem sub_le9 {a d g : Nat} (ha : a ≤ 20000) (hd : d ≤ 20000) (hg : g ≤ 99) : (nI a - nI d ≤ nI g) ↔ (nI a ≤ nI d + nI g) := by
  rw [nI_add]
  have e1 : (nI a - nI d).toInt = (a : Int) - d := pk_sub_toInt (by omega) (by omega)
  have e2 : ∀ k : Nat, k < 2 ^ 31 → (nI k).toInt = (k : Int) := fun k hk => Int32.toInt_ofNat_of_lt hk
  rw [Int32.le_iff_toInt_le, Int32.le_iff_toInt_le, e1, e2 g (by omega), e2 a (by omega), e2 (d + g) (by omega)]
  omega
theorem O_expected {p : Nat} (hn : n ≤ 24) (hp : p < n) (hr : ∃ q, rowP q (rO c0 b v) (80 + 10 * p) E P C) (hP : P ≤ 6) (hI : CI (rO c0 b v) C O n) (h5 : rO c0 b v 5 = nI dd) (hdd : dd ≤ 20000) : f_Own_expected b (nI p) v = some (ansr (rO c0 b v) (80 + 10 * p)) := by
  have h24 : p < 24 := by omega
  have hR := O_refund hn hp hr hP
  obtain ⟨-, -, -, h4, gg, hg, h2⟩ := hI
  have hd := h4 p hp
  unfold f_Own_expected ansr
  rw [chk_of (inb_of h24 (by omega)), chk_of (inb_of h24 (by omega)), chk_of (inb_of h24 (by omega)), chk_of (inb_of h24 (by omega)), nI_clamp (by omega), hR, bind_s, ro_p7 h24, ro_p8 h24]
  rw [ro_p7 h24, ro_p8 h24] at hd
  by_cases e0 : v 74 b p = 0
  · rw [if_pos e0, if_pos e0]
  rw [if_neg e0, if_neg e0]
  by_cases e1 : v 74 b p = 1
  · rw [if_pos e1, if_pos e1]
  rw [if_neg e1, if_neg e1]
  by_cases e3 : v 74 b p = 3
  · rw [if_pos e3, if_pos e3]
  rw [if_neg e3, if_neg e3]
  obtain ⟨d, hd2, hd3⟩ := hd e0
  rw [← ro_0 (c0 := c0) (b := b) (v := v) (f := 5) (by omega), ← ro_0 (c0 := c0) (b := b) (v := v) (f := 2) (by omega), ← ro_0 (c0 := c0) (b := b) (v := v) (f := 0) (by omega), h5, h2, hd3]
  by_cases c : nI dd - nI d ≤ nI gg
  · rw [if_pos c, if_pos ((sub_le9 hdd hd2 hg).mp c)]
    split <;> rfl
  · rw [if_neg c, if_neg (fun z => c ((sub_le9 hdd hd2 hg).mpr z))]
theorem O_idle (h9 : rO c0 b v 9 = nI O) (hO : O ≤ 5) (hd : ∀ o, o < O → ∃ d, d ≤ 60 ∧ rO c0 b v (52 + 5 * o + 1) = nI d) : f_Own_idle b v = some (if idl (rO c0 b v) O = -1 then nI O else idl (rO c0 b v) O) := by
  rw [ro_0 (by omega)] at h9
  have key : ∀ n k, k + n = O → it (fun s : Int32 => s_Own_idle_2 b s v) (n + 1) (nI k) = some (if fdI (fun o => decide (rO c0 b v (52 + 5 * o + 1) = 0)) k n = -1 then nI O else fdI (fun o => decide (rO c0 b v (52 + 5 * o + 1) = 0)) k n) := by
    intro n
    induction n with
    | zero =>
      intro k hk
      obtain rfl : k = O := by omega
      refine it_r ?_
      show s_Own_idle_2 b (nI k) v = _
      unfold s_Own_idle_2
      rw [h9, if_pos (nI_le (Nat.le_refl _) (by omega))]
      rfl
    | succ n ih =>
      intro k hk
      obtain ⟨d, hd1, hd2⟩ := hd k (by omega)
      have hd3 := hd2
      rw [ro_o1 (by omega)] at hd3
      have hs : s_Own_idle_2 b (nI k) v = if d = 0 then some (.inr (nI k)) else some (.inl (nI (k + 1))) := by
        unfold s_Own_idle_2
        rw [h9, if_neg (nI_ge (show k < O by omega) (by omega)), chk_of (inb_of (show k < 5 by omega) (by omega)), nI_clamp (by omega), hd3, nI_1]
        by_cases e : d = 0
        · subst e
          rw [if_pos (by decide), if_pos rfl]
        · rw [if_neg (le_0 (by omega) (by omega)), if_neg e]
      show it _ (n + 1 + 1) (nI k) = _
      have hf : fdI (fun o => decide (rO c0 b v (52 + 5 * o + 1) = 0)) k (n + 1) = if d = 0 then nI k else fdI (fun o => decide (rO c0 b v (52 + 5 * o + 1) = 0)) (k + 1) n := by
        show (if decide (rO c0 b v (52 + 5 * k + 1) = 0) = true then nI k else _) = _
        rw [hd2]
        by_cases e : d = 0
        · subst e
          rw [if_pos (by decide), if_pos rfl]
        · rw [if_neg (by rw [decide_eq_true_eq, eq_0 (by omega)]; exact e), if_neg e]
      rw [hf]
      by_cases e : d = 0
      · rw [if_pos e] at hs ⊢
        rw [if_neg (ne_m1 (by omega))]
        exact it_r hs
      · rw [if_neg e] at hs ⊢
        exact it_l hs (ih (k + 1) (by omega))
  unfold f_Own_idle idl
  show (it (fun s : Int32 => s_Own_idle_2 b s v) LIM (nI 0)).bind _ = _
  rw [it_mono (show O + 1 ≤ LIM by unfold LIM; omega) (key O 0 (by omega)), bind_s]
theorem O_queued {x : Int32} (h12 : rO c0 b v 12 = nI w) (hw : w ≤ 24) : f_Own_queued b x v = some (inq (rO c0 b v) x w) := by
  rw [ro_0 (by omega)] at h12
  unfold f_Own_queued inq
  refine it_fd _ w (by omega) (fun i hi => ?_) ?_
  · unfold s_Own_queued_2
    rw [h12, if_neg (nI_ge hi (by omega)), chk_of (inb_of (by omega) (by omega)), nI_clamp (by omega), ro_q, nI_1]
    by_cases h : v 77 b i = x
    · rw [if_pos h, if_pos (decide_eq_true h)]
    · rw [if_neg h, if_neg (by rw [decide_eq_true_eq]; exact h)]
  · unfold s_Own_queued_2
    rw [h12, if_pos (nI_le (Nat.le_refl _) (by omega))]
theorem note9 {e p e2 p2 : Nat} (he : e < 6) (hp : p < 6) (he2 : e2 < 6) (hp2 : p2 < 6) : (nI (6 * e + p) = 6 * nI e2 + nI p2) ↔ (nI (6 * e + p) / 6 = nI e2 ∧ nI (6 * e + p) - nI (6 * e + p) / 6 * 6 = nI p2) := by
  have h9 : ∀ e, e < 6 → ∀ p, p < 6 → ∀ e2, e2 < 6 → ∀ p2, p2 < 6 → ((Int32.ofNat (6 * e + p) = 6 * Int32.ofNat e2 + Int32.ofNat p2) ↔ (Int32.ofNat (6 * e + p) / 6 = Int32.ofNat e2 ∧ Int32.ofNat (6 * e + p) - Int32.ofNat (6 * e + p) / 6 * 6 = Int32.ofNat p2)) := by decide +kernel
  exact h9 e he p hp e2 he2 p2 hp2
theorem O_times {e p : Nat} (he : e < 6) (hp : p < 6) (h11 : rO c0 b v 11 = nI t) (ht : t ≤ 60) (hN : NI v b t) : f_Own_times b (nI e) (nI p) v = some (nI (hap (rO c0 b v) (nI e) (nI p) t)) := by
  rw [ro_0 (by omega)] at h11
  unfold f_Own_times hap
  rw [it_ct (fun i => decide (rO c0 b v (320 + 3 * i + 0) = nI e) && decide (rO c0 b v (320 + 3 * i + 1) = nI p)) t (by omega) (fun i hi x => ?_) (fun x => ?_)]
  · rfl
  · obtain ⟨e2, p2, he2, hp2, hc⟩ := hN i hi
    show s_Own_times_5 b (nI e) (nI p) x (nI i) v = _
    unfold s_Own_times_5
    rw [h11, if_neg (nI_ge hi (by omega)), chk_of (inb_of (by omega) (by omega)), nI_clamp (by omega), ro_n0 (by omega), ro_n1 (by omega), hc, nI_1]
    have h9 := note9 he2 hp2 he hp
    by_cases h : nI (6 * e2 + p2) = 6 * nI e + nI p
    · rw [if_pos h, nm_9, if_pos (by rw [Bool.and_eq_true, decide_eq_true_eq, decide_eq_true_eq]; exact h9.mp h)]
    · rw [if_neg h, nm_9, if_neg (by rw [Bool.and_eq_true, decide_eq_true_eq, decide_eq_true_eq]; exact fun z => h (h9.mpr z)), Int32.add_zero]
  · show s_Own_times_5 b (nI e) (nI p) x (nI t) v = _
    unfold s_Own_times_5
    rw [h11, if_pos (nI_le (Nat.le_refl _) (by omega))]
theorem O_has {e p : Nat} {d : Int32} (he : e < 6) (hp : p < 6) (h11 : rO c0 b v 11 = nI t) (ht : t ≤ 60) (hN : NI v b t) : f_Own_has b (nI e) (nI p) d v = some (if hapd (rO c0 b v) (nI e) (nI p) d t = 0 then 0 else 1) := by
  rw [ro_0 (by omega)] at h11
  unfold f_Own_has hapd
  refine it_any _ t (by omega) (fun i hi => ?_) ?_
  · obtain ⟨e2, p2, he2, hp2, hc⟩ := hN i hi
    show s_Own_has_3 b (nI e) (nI p) d (nI i) v = _
    unfold s_Own_has_3
    rw [h11, if_neg (nI_ge hi (by omega)), chk_of (inb_of (by omega) (by omega)), chk_of (inb_of (by omega) (by omega)), nI_clamp (by omega), ro_n0 (by omega), ro_n1 (by omega), ro_d (by omega), hc, nI_1]
    have h9 := note9 he2 hp2 he hp
    by_cases h : nI (6 * e2 + p2) = 6 * nI e + nI p
    · rw [if_pos h, (h9.mp h).2, (h9.mp h).1]
      by_cases h3 : v 80 b i = d <;> simp [h3]
    · rw [if_neg h, if_neg]
      rw [Bool.and_eq_true, Bool.and_eq_true, decide_eq_true_eq, decide_eq_true_eq]
      exact fun z => h (h9.mpr ⟨z.1, z.2.1⟩)
  · show s_Own_has_3 b (nI e) (nI p) d (nI t) v = _
    unfold s_Own_has_3
    rw [h11, if_pos (nI_le (Nat.le_refl _) (by omega))]
theorem O_many {x : Int32} (h10 : rO c0 b v 10 = nI n) (hn : n ≤ 24) : f_Own_many b x v = some (nI (ct (fun p => decide (rO c0 b v (80 + 10 * p + 7) = x)) n)) := by
  rw [ro_0 (by omega)] at h10
  unfold f_Own_many
  rw [it_ct (fun p => decide (rO c0 b v (80 + 10 * p + 7) = x)) n (by omega) (fun i hi z => ?_) (fun z => ?_)]
  · rfl
  · show s_Own_many_4 b x z (nI i) v = _
    unfold s_Own_many_4
    rw [h10, if_neg (nI_ge hi (by omega)), chk_of (inb_of (by omega) (by omega)), nI_clamp (by omega), ro_p7 (by omega), nI_1]
    by_cases h : v 74 b i = x
    · rw [if_pos h, nm_9, if_pos (decide_eq_true h)]
    · rw [if_neg h, nm_9, if_neg (by rw [decide_eq_true_eq]; exact h), Int32.add_zero]
  · show s_Own_many_4 b x z (nI n) v = _
    unfold s_Own_many_4
    rw [h10, if_pos (nI_le (Nat.le_refl _) (by omega))]
theorem O_idles (h9 : rO c0 b v 9 = nI O) (hO : O ≤ 5) : f_Own_idles b v = some (nI (ct (fun o => decide (rO c0 b v (52 + 5 * o + 1) = 0)) O)) := by
  rw [ro_0 (by omega)] at h9
  unfold f_Own_idles
  rw [it_ct (fun o => decide (rO c0 b v (52 + 5 * o + 1) = 0)) O (by omega) (fun i hi z => ?_) (fun z => ?_)]
  · rfl
  · show s_Own_idles_4 b z (nI i) v = _
    unfold s_Own_idles_4
    rw [h9, if_neg (nI_ge hi (by omega)), chk_of (inb_of (by omega) (by omega)), nI_clamp (by omega), ro_o1 (by omega), nI_1]
    by_cases h : v 64 b i = 0
    · rw [if_pos h, nm_9, if_pos (decide_eq_true h)]
    · rw [if_neg h, nm_9, if_neg (by rw [decide_eq_true_eq]; exact h), Int32.add_zero]
  · show s_Own_idles_4 b z (nI O) v = _
    unfold s_Own_idles_4
    rw [h9, if_pos (nI_le (Nat.le_refl _) (by omega))]
end Own

/-! What holds of the row is kept. -/
section Kept
variable {a a' : Nat → Int32} {C O n : Nat}
theorem sm_one {g g' : Nat → Int32} {k : Nat} {x : Int32} {n : Nat} (hk : k < n) (e : ∀ i, i < n → i ≠ k → g' i = g i) (ek : g' k = g k + x) : sm g' n = sm g n + x := by
  rw [sm_congr (g := g') (g' := fun i => if i = k then g k + x else g i) (fun i hi => by
    by_cases z : i = k
    · rw [if_pos z, z, ek]
    · rw [if_neg z, e i hi z]), sm_ua hk]
  congr 1
  rw [Int32.add_comm, Int32.add_sub_cancel]
theorem CI.dec (h : CI a C O n) (hC : C ≤ 8) (hO : O ≤ 5) (hn : n ≤ 24) {i z dd : Nat} (hi : i < n) (h0 : a (80 + 10 * i + 7) = 0) (hz : z = 1 ∨ z = 2) (hd : dd ≤ 20000)
    (e : ∀ k, ¬ irr k → k ≠ 80 + 10 * i + 7 → k ≠ 80 + 10 * i + 8 → a' k = a k) (e7 : a' (80 + 10 * i + 7) = nI z) (e8 : a' (80 + 10 * i + 8) = nI dd) : CI a' C O n := by
  obtain ⟨h1, h2, h3, h4, h5⟩ := h
  refine ⟨?_, ?_, fun o ho => ?_, fun p hp => ?_, ?_⟩
  · rw [e 15 (by unfold irr; omega) (by omega) (by omega), e 0 (by unfold irr; omega) (by omega) (by omega), sm_congr (g' := fun c => a (28 + 3 * c + 1)) (fun c hc => e _ (by unfold irr; omega) (by omega) (by omega)), sm_congr (g' := fun o => a (52 + 5 * o + 2)) (fun o ho => e _ (by unfold irr; omega) (by omega) (by omega))]
    exact h1
  · rw [e 14 (by unfold irr; omega) (by omega) (by omega), sm_congr (g' := fun p => if a (80 + 10 * p + 7) = 3 then rfd a (80 + 10 * p) else 0) (fun p hp => ?_)]
    · exact h2
    · show (if a' (80 + 10 * p + 7) = 3 then rfd a' (80 + 10 * p) else 0) = _
      by_cases q : p = i
      · subst q
        rw [e7, h0, if_neg (show ¬ nI z = 3 by rcases hz with rfl | rfl <;> decide), if_neg (by decide)]
      · rw [e (80 + 10 * p + 7) (by unfold irr; omega) (by omega) (by omega), rfd_cong (e _ (by unfold irr; omega) (by omega) (by omega)) (e _ (by unfold irr; omega) (by omega) (by omega)) (e _ (by unfold irr; omega) (by omega) (by omega)) (e _ (by unfold irr; omega) (by omega) (by omega))]
  · rw [e (52 + 5 * o + 3) (by unfold irr; omega) (by omega) (by omega), e (52 + 5 * o + 1) (by unfold irr; omega) (by omega) (by omega), e (52 + 5 * o + 4) (by unfold irr; omega) (by omega) (by omega)]
    exact h3 o ho
  · by_cases q : p = i
    · subst q
      exact fun _ => ⟨dd, hd, e8⟩
    · rw [e (80 + 10 * p + 7) (by unfold irr; omega) (by omega) (by omega), e (80 + 10 * p + 8) (by unfold irr; omega) (by omega) (by omega)]
      exact h4 p hp
  · rw [e 2 (by unfold irr; omega) (by omega) (by omega)]
    exact h5
theorem CI.tick (h : CI a C O n) (hC : C ≤ 8) (hO : O ≤ 5) (hn : n ≤ 24) {i : Nat} {x : Int32} (hi : i < O) (hx : a (52 + 5 * i + 3) = -1 ∨ ∃ d, 1 ≤ d ∧ d ≤ 60 ∧ x = nI d) : CI (ua a (52 + 5 * i + 1) x) C O n := by
  have e : ∀ k, k ≠ 52 + 5 * i + 1 → ua a (52 + 5 * i + 1) x k = a k := fun k hk => ua_N hk
  obtain ⟨h1, h2, h3, h4, h5⟩ := h
  refine ⟨?_, ?_, fun o ho => ?_, fun p hp => ?_, ?_⟩
  · rw [e 15 (by omega), e 0 (by omega), sm_congr (g' := fun c => a (28 + 3 * c + 1)) (fun c hc => e _ (by omega)), sm_congr (g' := fun o => a (52 + 5 * o + 2)) (fun o ho => e _ (by omega))]
    exact h1
  · rw [e 14 (by omega), sm_congr (g' := fun p => if a (80 + 10 * p + 7) = 3 then rfd a (80 + 10 * p) else 0) (fun p hp => ?_)]
    · exact h2
    · show (if ua a (52 + 5 * i + 1) x (80 + 10 * p + 7) = 3 then rfd (ua a (52 + 5 * i + 1) x) (80 + 10 * p) else 0) = _
      rw [e (80 + 10 * p + 7) (by omega), rfd_cong (e _ (by omega)) (e _ (by omega)) (e _ (by omega)) (e _ (by omega))]
  · rw [e (52 + 5 * o + 3) (by omega), e (52 + 5 * o + 4) (by omega)]
    by_cases q : o = i
    · subst q
      rw [ua_S]
      rcases h3 o ho with g | ⟨-, g2⟩
      · exact Or.inl g
      · rcases hx with g | g
        · exact Or.inl g
        · exact Or.inr ⟨g, g2⟩
    · rw [e (52 + 5 * o + 1) (by omega)]
      exact h3 o ho
  · rw [e (80 + 10 * p + 7) (by omega), e (80 + 10 * p + 8) (by omega)]
    exact h4 p hp
  · rw [e 2 (by omega)]
    exact h5
theorem CI.land (h : CI a C O n) (hC : C ≤ 8) (hO : O ≤ 5) (hn : n ≤ 24) {i c : Nat} (hi : i < O) (hc : c < C)
    (e : ∀ k, ¬ irr k → k ≠ 28 + 3 * c + 1 → ¬ (52 + 5 * i + 1 ≤ k ∧ k ≤ 52 + 5 * i + 3) → a' k = a k) (e1 : a' (28 + 3 * c + 1) = a (28 + 3 * c + 1) + a (52 + 5 * i + 2)) (e2 : a' (52 + 5 * i + 2) = 0) (e3 : a' (52 + 5 * i + 3) = -1) : CI a' C O n := by
  obtain ⟨h1, h2, h3, h4, h5⟩ := h
  refine ⟨?_, ?_, fun o ho => ?_, fun p hp => ?_, ?_⟩
  · rw [e 15 (by unfold irr; omega) (by omega) (by omega), e 0 (by unfold irr; omega) (by omega) (by omega),
      sm_one (g := fun c => a (28 + 3 * c + 1)) (g' := fun c => a' (28 + 3 * c + 1)) hc (fun k hk z => e _ (by unfold irr; omega) (by omega) (by omega)) e1,
      sm_one (g := fun o => a (52 + 5 * o + 2)) (g' := fun o => a' (52 + 5 * o + 2)) (x := - a (52 + 5 * i + 2)) hi (fun k hk z => e _ (by unfold irr; omega) (by omega) (by omega)) (by rw [e2, Int32.add_right_neg]), h1]
    generalize sm (fun c => a (28 + 3 * c + 1)) C = s1
    generalize sm (fun o => a (52 + 5 * o + 2)) O = s2
    generalize a (52 + 5 * i + 2) = z
    rw [Int32.add_assoc, Int32.add_assoc, Int32.add_assoc, Int32.add_comm s2 (-z), ← Int32.add_assoc z, Int32.add_right_neg, Int32.zero_add]
  · rw [e 14 (by unfold irr; omega) (by omega) (by omega), sm_congr (g' := fun p => if a (80 + 10 * p + 7) = 3 then rfd a (80 + 10 * p) else 0) (fun p hp => ?_)]
    · exact h2
    · show (if a' (80 + 10 * p + 7) = 3 then rfd a' (80 + 10 * p) else 0) = _
      rw [e (80 + 10 * p + 7) (by unfold irr; omega) (by omega) (by omega), rfd_cong (e _ (by unfold irr; omega) (by omega) (by omega)) (e _ (by unfold irr; omega) (by omega) (by omega)) (e _ (by unfold irr; omega) (by omega) (by omega)) (e _ (by unfold irr; omega) (by omega) (by omega))]
  · by_cases q : o = i
    · subst q
      exact Or.inl e3
    · rw [e (52 + 5 * o + 3) (by unfold irr; omega) (by omega) (by omega), e (52 + 5 * o + 1) (by unfold irr; omega) (by omega) (by omega), e (52 + 5 * o + 4) (by unfold irr; omega) (by omega) (by omega)]
      exact h3 o ho
  · rw [e (80 + 10 * p + 7) (by unfold irr; omega) (by omega) (by omega), e (80 + 10 * p + 8) (by unfold irr; omega) (by omega) (by omega)]
    exact h4 p hp
  · rw [e 2 (by unfold irr; omega) (by omega) (by omega)]
    exact h5
theorem CI.pay (h : CI a C O n) (hC : C ≤ 8) (hO : O ≤ 5) (hn : n ≤ 24) {o p T : Nat} {r : Int32} (ho : o < O) (hp : p < n) (h0 : a (52 + 5 * o + 2) = 0) (hs : a (80 + 10 * p + 7) ≠ 3) (hs0 : a (80 + 10 * p + 7) ≠ 0) (hT1 : 1 ≤ T) (hT2 : T ≤ 60) (hr : r = rfd a (80 + 10 * p))
    (e : ∀ k, ¬ irr k → k ≠ 0 → k ≠ 14 → k ≠ 80 + 10 * p + 7 → ¬ (52 + 5 * o + 1 ≤ k ∧ k ≤ 52 + 5 * o + 4) → a' k = a k) (e0 : a' 0 = a 0 - r) (e14 : a' 14 = a 14 + r) (e7 : a' (80 + 10 * p + 7) = 3) (e1 : a' (52 + 5 * o + 1) = nI T) (e2 : a' (52 + 5 * o + 2) = r) (e4 : a' (52 + 5 * o + 4) = nI T) : CI a' C O n := by
  obtain ⟨h1, h2, h3, h4, h5⟩ := h
  have E : ∀ k, ¬ irr k → k ≠ 0 ∧ k ≠ 14 ∧ k ≠ 80 + 10 * p + 7 ∧ ¬ (52 + 5 * o + 1 ≤ k ∧ k ≤ 52 + 5 * o + 4) → a' k = a k := fun k k1 k2 => e k k1 k2.1 k2.2.1 k2.2.2.1 k2.2.2.2
  have R : ∀ q, q < n → rfd a' (80 + 10 * q) = rfd a (80 + 10 * q) := fun q hq => rfd_cong (E _ (by unfold irr; omega) (by omega)) (E _ (by unfold irr; omega) (by omega)) (E _ (by unfold irr; omega) (by omega)) (E _ (by unfold irr; omega) (by omega))
  refine ⟨?_, ?_, fun o' ho' => ?_, fun p' hp' => ?_, ?_⟩
  · rw [E 15 (by unfold irr; omega) (by omega), e0, sm_congr (g := fun c => a' (28 + 3 * c + 1)) (g' := fun c => a (28 + 3 * c + 1)) (fun c hc => E _ (by unfold irr; omega) (by omega)),
      sm_one (g := fun o => a (52 + 5 * o + 2)) (g' := fun o => a' (52 + 5 * o + 2)) (x := r) ho (fun k hk z => E _ (by unfold irr; omega) (by omega)) (by rw [e2, h0, Int32.zero_add]), h1]
    generalize sm (fun c => a (28 + 3 * c + 1)) C = s1
    generalize sm (fun o => a (52 + 5 * o + 2)) O = s2
    rw [Int32.sub_eq_add_neg, Int32.add_assoc, Int32.add_assoc, Int32.add_assoc, Int32.add_comm s2 r, ← Int32.add_assoc s1, Int32.add_comm s1 r, Int32.add_assoc r, ← Int32.add_assoc (-r), Int32.add_left_neg, Int32.zero_add]
  · rw [e14, h2]
    exact (sm_one (g := fun p => if a (80 + 10 * p + 7) = 3 then rfd a (80 + 10 * p) else 0) (g' := fun p => if a' (80 + 10 * p + 7) = 3 then rfd a' (80 + 10 * p) else 0) (x := r) hp (fun k hk z => by
      show (if a' (80 + 10 * k + 7) = 3 then rfd a' (80 + 10 * k) else 0) = _
      rw [E (80 + 10 * k + 7) (by unfold irr; omega) (by omega), R k hk]) (by
      show (if a' (80 + 10 * p + 7) = 3 then rfd a' (80 + 10 * p) else 0) = (if a (80 + 10 * p + 7) = 3 then rfd a (80 + 10 * p) else 0) + r
      rw [if_pos e7, if_neg hs, R p hp, hr, Int32.zero_add])).symm
  · by_cases q : o' = o
    · subst q
      exact Or.inr ⟨⟨T, hT1, hT2, e1⟩, T, hT1, hT2, e4⟩
    · rw [E (52 + 5 * o' + 3) (by unfold irr; omega) (by omega), E (52 + 5 * o' + 1) (by unfold irr; omega) (by omega), E (52 + 5 * o' + 4) (by unfold irr; omega) (by omega)]
      exact h3 o' ho'
  · by_cases q : p' = p
    · subst q
      rw [E (80 + 10 * p' + 8) (by unfold irr; omega) (by omega)]
      exact fun _ => h4 p' hp' hs0
    · rw [E (80 + 10 * p' + 7) (by unfold irr; omega) (by omega), E (80 + 10 * p' + 8) (by unfold irr; omega) (by omega)]
      exact h4 p' hp'
  · rw [E 2 (by unfold irr; omega) (by omega)]
    exact h5
theorem CI.sale (h : CI a C O n) (hC : C ≤ 8) (hO : O ≤ 5) (hn : n < 24) {c : Nat} {x : Int32} (hc : c < C)
    (e : ∀ k, ¬ irr k → k ≠ 0 → k ≠ 28 + 3 * c + 1 → (k < 80 + 10 * n ∨ 90 + 10 * n ≤ k) → a' k = a k) (e0 : a' 0 = a 0 + x) (e1 : a' (28 + 3 * c + 1) = a (28 + 3 * c + 1) - x) (e7 : a' (80 + 10 * n + 7) = 0) : CI a' C O (n + 1) := by
  obtain ⟨h1, h2, h3, h4, h5⟩ := h
  have E : ∀ k, ¬ irr k → k ≠ 0 ∧ k ≠ 28 + 3 * c + 1 ∧ (k < 80 + 10 * n ∨ 90 + 10 * n ≤ k) → a' k = a k := fun k k1 k2 => e k k1 k2.1 k2.2.1 k2.2.2
  refine ⟨?_, ?_, fun o ho => ?_, fun p hp => ?_, ?_⟩
  · rw [E 15 (by unfold irr; omega) (by omega), e0, sm_one (g := fun c => a (28 + 3 * c + 1)) (g' := fun c => a' (28 + 3 * c + 1)) (x := -x) hc (fun k hk z => E _ (by unfold irr; omega) (by omega)) (by rw [e1, Int32.sub_eq_add_neg]),
      sm_congr (g := fun o => a' (52 + 5 * o + 2)) (g' := fun o => a (52 + 5 * o + 2)) (fun o ho => E _ (by unfold irr; omega) (by omega)), h1]
    generalize sm (fun c => a (28 + 3 * c + 1)) C = s1
    congr 1
    rw [Int32.add_assoc, Int32.add_comm s1, ← Int32.add_assoc x, Int32.add_right_neg, Int32.zero_add]
  · rw [E 14 (by unfold irr; omega) (by omega)]
    show _ = sm _ n + (if a' (80 + 10 * n + 7) = 3 then rfd a' (80 + 10 * n) else 0)
    rw [if_neg (by rw [e7]; decide), Int32.add_zero, sm_congr (g' := fun p => if a (80 + 10 * p + 7) = 3 then rfd a (80 + 10 * p) else 0) (fun p hp => ?_)]
    · exact h2
    · show (if a' (80 + 10 * p + 7) = 3 then rfd a' (80 + 10 * p) else 0) = _
      rw [E (80 + 10 * p + 7) (by unfold irr; omega) (by omega), rfd_cong (E _ (by unfold irr; omega) (by omega)) (E _ (by unfold irr; omega) (by omega)) (E _ (by unfold irr; omega) (by omega)) (E _ (by unfold irr; omega) (by omega))]
  · rw [E (52 + 5 * o + 3) (by unfold irr; omega) (by omega), E (52 + 5 * o + 1) (by unfold irr; omega) (by omega), E (52 + 5 * o + 4) (by unfold irr; omega) (by omega)]
    exact h3 o ho
  · by_cases q : p = n
    · subst q
      exact fun z => absurd e7 z
    · rw [E (80 + 10 * p + 7) (by unfold irr; omega) (by omega), E (80 + 10 * p + 8) (by unfold irr; omega) (by omega)]
      exact h4 p (by omega)
  · rw [E 2 (by unfold irr; omega) (by omega)]
    exact h5
theorem OVD.cong {dd : Nat} (h : OVD a n dd) (hn : n ≤ 24) (e : ∀ p, p < n → a' (80 + 10 * p + 7) = 0 → a (80 + 10 * p + 7) = 0) (e5 : ∀ p, p < n → a' (80 + 10 * p + 5) = a (80 + 10 * p + 5)) : OVD a' n dd := fun p hp z => by
  rw [e5 p hp]
  exact h p hp (e p hp z)
end Kept
/-- what a call leaves of the law's own shop -/
def FrO (c0 : Int32) (b : Nat) (v v' : Mem) : Prop := (∀ k, ¬ dynI k → rO c0 b v' k = rO c0 b v k) ∧ v' 79 b = v 79 b
theorem FrO.rf {c0 : Int32} {b : Nat} {v : Mem} : FrO c0 b v v := ⟨fun _ _ => rfl, rfl⟩
theorem FrO.tr {c0 : Int32} {b : Nat} {v v' v'' : Mem} (h : FrO c0 b v v') (h' : FrO c0 b v' v'') : FrO c0 b v v'' := ⟨fun k q => (h'.1 k q).trans (h.1 k q), h'.2.trans h.2⟩
theorem FrO.up {c0 : Int32} {b k : Nat} {v v' v'' : Mem} {x : Int32} (h : FrO c0 b v v') (e : rO c0 b v'' = ua (rO c0 b v') k x) (hk : dynI k) (h79 : v'' 79 b = v' 79 b) : FrO c0 b v v'' := by
  refine ⟨fun i q => ?_, h79.trans h.2⟩
  rw [e, ua_N (show i ≠ k from fun z => q (by rw [z]; exact hk))]
  exact h.1 i q
theorem NI.fr {c0 : Int32} {b t : Nat} {v v' : Mem} (h : NI v b t) (hf : FrO c0 b v v') : NI v' b t := fun i hi => by
  rw [hf.2]
  exact h i hi
theorem ST.fro {c0 : Int32} {μ μ' ν ν' : Mem} {b j s E P C O : Nat} (h : ST μ s (rO c0 b ν) E P C O) (hc : FrC j μ μ') (hn : FrO c0 b ν ν') : ST μ' s (rO c0 b ν') E P C O := by
  refine (h.mem (fun K hK => ?_)).cong hn.1
  funext i
  exact hc.1 K i (by unfold inS; unfold setK at hK; omega)
theorem st3_id {μ : Mem} {K j f : Nat} : st3 μ K j f (μ K j f) = μ := by
  funext K' j' f'
  unfold st3
  split
  · rename_i h
    obtain ⟨rfl, rfl, rfl⟩ := h
    rfl
  · rfl

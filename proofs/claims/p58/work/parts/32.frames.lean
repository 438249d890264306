/-! What a call leaves as it is; the shop's parts written one by one. -/
def inS (j K i : Nat) : Prop := ((K = 9 ∨ (27 ≤ K ∧ K ≤ 33)) ∧ i = j) ∨ (K = 5 ∧ i / 24 = j) ∨ (K = 4 ∧ i / 5 = j)
def FrC (j : Nat) (μ μ' : Mem) : Prop := (∀ K i, ¬ inS j K i → μ' K i = μ K i) ∧ μ' 9 j 0 = μ 9 j 0
theorem FrC.rf {j : Nat} {μ : Mem} : FrC j μ μ := ⟨fun _ _ _ => rfl, rfl⟩
theorem FrC.tr {j : Nat} {μ μ' μ'' : Mem} (h : FrC j μ μ') (h' : FrC j μ' μ'') : FrC j μ μ'' := ⟨fun K i q => (h'.1 K i q).trans (h.1 K i q), h'.2.trans h.2⟩
theorem FrC.st {j K i f : Nat} {μ μ' : Mem} {x : Int32} (h : FrC j μ μ') (hi : inS j K i) (hf : K ≠ 9 ∨ f ≠ 0) : FrC j μ (st3 μ' K i f x) := by
  refine ⟨fun K' i' q => ?_, ?_⟩
  · by_cases e : K' = K
    · subst e
      by_cases e2 : i' = i
      · subst e2; exact absurd hi q
      · rw [st3_J e2]; exact h.1 _ _ q
    · rw [st3_K e]; exact h.1 _ _ q
  · by_cases e : K = 9
    · subst e
      have hj : i = j := by unfold inS at hi; omega
      subst hj
      rw [st3_ua, ua_N (by omega)]; exact h.2
    · rw [st3_K (Ne.symm e)]; exact h.2
theorem FrC.st9 {j f : Nat} {μ μ' : Mem} {x : Int32} (h : FrC j μ μ') (hf : f ≠ 0) : FrC j μ (st3 μ' 9 j f x) := h.st (Or.inl ⟨Or.inl rfl, rfl⟩) (Or.inr hf)
theorem FrC.stA {j K f : Nat} {μ μ' : Mem} {x : Int32} (h : FrC j μ μ') (hK : 27 ≤ K ∧ K ≤ 33) : FrC j μ (st3 μ' K j f x) := h.st (Or.inl ⟨Or.inr hK, rfl⟩) (Or.inl (by omega))
theorem FrC.st5 {j p f : Nat} {μ μ' : Mem} {x : Int32} (h : FrC j μ μ') (hp : p < 24) : FrC j μ (st3 μ' 5 (24 * j + p) f x) := h.st (Or.inr (Or.inl ⟨rfl, by omega⟩)) (Or.inl (by omega))
theorem FrC.st4 {j o f : Nat} {μ μ' : Mem} {x : Int32} (h : FrC j μ μ') (ho : o < 5) : FrC j μ (st3 μ' 4 (5 * j + o) f x) := h.st (Or.inr (Or.inr ⟨rfl, by omega⟩)) (Or.inl (by omega))
/-- another shop's memory, and its row elsewhere -/
theorem SH.fr {μ μ' : Mem} {j i E P C O n w t dd : Nat} {a : Nat → Int32} (h : SH μ i a E P C O n w t dd) (hc : FrC j μ μ') (hne : i ≠ j) (hC : C ≤ 8) (hO : O ≤ 5) : SH μ' i a E P C O n w t dd := by
  refine h.cong ⟨?_, fun p hp => ?_, fun o ho => ?_, ?_, ?_, ?_, ?_, ?_⟩ (fun _ _ => rfl) hC hO
  all_goals refine hc.1 _ _ (by unfold inS; omega)
section Set
variable {μ μ' : Mem} {j E P C O n w t dd : Nat} {a a' : Nat → Int32}
theorem SH.setP (h : SH μ j a E P C O n w t dd) (i : Nat) (hi : i < n) (hC : C ≤ 8) (hO : O ≤ 5) (hK : ∀ K, K ≠ 5 → μ' K = μ K) (hJ : ∀ p, p ≠ i → μ' 5 (24 * j + p) = μ 5 (24 * j + p)) (ha : ∀ k, k < 80 + 10 * i ∨ 90 + 10 * i ≤ k → a' k = a k) (hr : rowP (μ' 5 (24 * j + i)) a' (80 + 10 * i) E P C) : SH μ' j a' E P C O n w t dd := by
  obtain ⟨h1, h2, h3, h4, h5, h6⟩ := h
  have hn : n ≤ 24 := h1.1
  have hw : w ≤ 24 := h1.2.1
  unfold SH
  rw [hK 9 (by omega), hK 27 (by omega), hK 30 (by omega), hK 31 (by omega), hK 32 (by omega), hK 33 (by omega), hK 4 (by omega)]
  refine ⟨?_, fun p hp => ?_, ⟨fun o ho => (h3.1 o ho).cong (fun _ _ => rfl) (fun f hf => ha _ (by omega)), h3.2⟩, ⟨fun c hc => by rw [ha _ (by omega)]; exact h4.1 c hc, h4.2⟩, ⟨fun k hk => by rw [ha _ (by omega)]; exact h5.1 k hk, fun k k' hk hk' => by rw [ha _ (by omega), ha _ (by omega)]; exact h5.2 k k' hk hk'⟩, fun k hk => by rw [ha _ (by omega), ha _ (by omega), ha _ (by omega)]; exact h6 k hk⟩
  · unfold SHs at h1 ⊢; rw [ha 5 (by omega), ha 0 (by omega), ha 10 (by omega), ha 12 (by omega), ha 11 (by omega), ha 13 (by omega), ha 14 (by omega)]; exact h1
  · by_cases e : p = i
    · subst e; exact hr
    · exact (h2 p hp).cong (fun f _ => congrFun (hJ p e) f) (fun f hf => ha _ (by omega))
theorem SH.setO (h : SH μ j a E P C O n w t dd) (i : Nat) (hi : i < O) (hC : C ≤ 8) (hO : O ≤ 5) (hK : ∀ K, K ≠ 4 → μ' K = μ K) (hJ : ∀ o, o ≠ i → μ' 4 (5 * j + o) = μ 4 (5 * j + o)) (ha : ∀ k, k < 52 + 5 * i ∨ 57 + 5 * i ≤ k → a' k = a k) (hr : rowO (μ' 4 (5 * j + i)) a' (52 + 5 * i) C) : SH μ' j a' E P C O n w t dd := by
  obtain ⟨h1, h2, h3, h4, h5, h6⟩ := h
  have hn : n ≤ 24 := h1.1
  have hw : w ≤ 24 := h1.2.1
  unfold SH
  rw [hK 9 (by omega), hK 27 (by omega), hK 30 (by omega), hK 31 (by omega), hK 32 (by omega), hK 33 (by omega), hK 5 (by omega)]
  refine ⟨?_, fun p hp => (h2 p hp).cong (fun _ _ => rfl) (fun f hf => ha _ (by omega)), ⟨fun o ho => ?_, fun o h7 h8 => ?_⟩, ⟨fun c hc => by rw [ha _ (by omega)]; exact h4.1 c hc, h4.2⟩, ⟨fun k hk => by rw [ha _ (by omega)]; exact h5.1 k hk, fun k k' hk hk' => by rw [ha _ (by omega), ha _ (by omega)]; exact h5.2 k k' hk hk'⟩, fun k hk => by rw [ha _ (by omega), ha _ (by omega), ha _ (by omega)]; exact h6 k hk⟩
  · unfold SHs at h1 ⊢; rw [ha 5 (by omega), ha 0 (by omega), ha 10 (by omega), ha 12 (by omega), ha 11 (by omega), ha 13 (by omega), ha 14 (by omega)]; exact h1
  · by_cases e : o = i
    · subst e; exact hr
    · exact (h3.1 o ho).cong (fun f _ => congrFun (hJ o e) f) (fun f hf => ha _ (by omega))
  · show μ' 4 (5 * j + o) 0 = 0 ∧ μ' 4 (5 * j + o) 1 = 0 ∧ μ' 4 (5 * j + o) 4 = 0
    rw [hJ o (by omega)]; exact h3.2 o h7 h8
theorem SH.setC (h : SH μ j a E P C O n w t dd) (c : Nat) (x : Int32) (hc : c < C) (hC : C ≤ 8) (hO : O ≤ 5) : SH (st3 μ 27 j c x) j (ua a (28 + 3 * c + 1) x) E P C O n w t dd := by
  obtain ⟨h1, h2, h3, h4, h5, h6⟩ := h
  have hn : n ≤ 24 := h1.1
  have hw : w ≤ 24 := h1.2.1
  unfold SH
  rw [st3_K (show 9 ≠ 27 by omega), st3_K (show 30 ≠ 27 by omega), st3_K (show 31 ≠ 27 by omega), st3_K (show 32 ≠ 27 by omega), st3_K (show 33 ≠ 27 by omega), st3_K (show 4 ≠ 27 by omega), st3_K (show 5 ≠ 27 by omega), st3_ua]
  refine ⟨h1.ua (by omega), h2.ua (by omega), h3.ua hO (by omega), ⟨fun i hi => ?_, fun i h7 h8 => by rw [ua_N (by omega)]; exact h4.2 i h7 h8⟩, h5.ua (by omega), h6.ua (by omega)⟩
  by_cases e : i = c
  · subst e; rw [ua_S, ua_S]
  · rw [ua_N e, ua_N (by omega)]; exact h4.1 i hi
/-- numbers alone -/
theorem SH.setS (h : SH μ j a E P C O n w t dd) {dd' : Nat} (hC : C ≤ 8) (hO : O ≤ 5) (hK : ∀ K, K ≠ 9 → μ' K = μ K) (ha : ∀ k, 15 ≤ k → a' k = a k) (hs : SHs (μ' 9 j) a' n w t dd') : SH μ' j a' E P C O n w t dd' := by
  obtain ⟨h1, h2, h3, h4, h5, h6⟩ := h
  have hn : n ≤ 24 := h1.1
  have hw : w ≤ 24 := h1.2.1
  unfold SH
  rw [hK 4 (by omega), hK 27 (by omega), hK 30 (by omega), hK 31 (by omega), hK 32 (by omega), hK 33 (by omega), hK 5 (by omega)]
  exact ⟨hs, fun p hp => (h2 p hp).cong (fun _ _ => rfl) (fun f hf => ha _ (by omega)), ⟨fun o ho => (h3.1 o ho).cong (fun _ _ => rfl) (fun f hf => ha _ (by omega)), h3.2⟩, ⟨fun c hc => by rw [ha _ (by omega)]; exact h4.1 c hc, h4.2⟩, ⟨fun k hk => by rw [ha _ (by omega)]; exact h5.1 k hk, fun k k' hk hk' => by rw [ha _ (by omega), ha _ (by omega)]; exact h5.2 k k' hk hk'⟩, fun k hk => by rw [ha _ (by omega), ha _ (by omega), ha _ (by omega)]; exact h6 k hk⟩
end Set
theorem rowP.dec {q a : Nat → Int32} {b E P C : Nat} {v x : Int32} (h : rowP q a b E P C) (hv : v = 1 ∨ v = 2) : rowP (ua (ua q 7 v) 8 x) (ua (ua a (b + 7) v) (b + 8) x) b E P C := by
  obtain ⟨h1, h2, h3, h4, h5, h6, h7, h8, h9, h10⟩ := h
  have qa : ∀ f, f ≠ 7 → f ≠ 8 → ua (ua q 7 v) 8 x f = q f := fun f e1 e2 => by rw [ua_N e2, ua_N e1]
  have aa : ∀ f, f ≠ 7 → f ≠ 8 → ua (ua a (b + 7) v) (b + 8) x (b + f) = a (b + f) := fun f e1 e2 => by rw [ua_N (by omega), ua_N (by omega)]
  have q7 : ua (ua q 7 v) 8 x 7 = v := by rw [ua_N (by omega), ua_S]
  have a7 : ua (ua a (b + 7) v) (b + 8) x (b + 7) = v := by rw [ua_N (by omega), ua_S]
  unfold rowP
  rw [qa 0 (by omega) (by omega), qa 1 (by omega) (by omega), qa 2 (by omega) (by omega), qa 3 (by omega) (by omega), qa 4 (by omega) (by omega), qa 5 (by omega) (by omega), qa 6 (by omega) (by omega), qa 9 (by omega) (by omega),
    aa 0 (by omega) (by omega), aa 1 (by omega) (by omega), aa 2 (by omega) (by omega), aa 3 (by omega) (by omega), aa 4 (by omega) (by omega), aa 5 (by omega) (by omega), aa 6 (by omega) (by omega), aa 9 (by omega) (by omega), q7, a7, ua_S, ua_S]
  exact ⟨h1, h2, h3, h4, h5, h6, rfl, by rcases hv with rfl | rfl; exact Or.inr (Or.inl rfl); exact Or.inr (Or.inr (Or.inl rfl)), fun _ => rfl, h10⟩
theorem C_decide {q : Nat} {x d : Int32} {μ : Mem} : f_Prophecy_decide q x d μ = some (st3 (st3 μ 5 q 7 (if x = (if μ 5 q 1 = 2 then 0 else 1) then 1 else 2)) 5 q 8 d) := by
  unfold f_Prophecy_decide
  split <;> rw [bind_s] <;> split <;> rfl
theorem st3_two {μ : Mem} {K j f1 f2 : Nat} {x y : Int32} : st3 (st3 μ K j f1 x) K j f2 y K j = ua (ua (μ K j) f1 x) f2 y := by rw [st3_ua, st3_ua]

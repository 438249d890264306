/-! A shop is copied. -/
theorem lt10 {P : Nat → Prop} (h0 : P 0) (h1 : P 1) (h2 : P 2) (h3 : P 3) (h4 : P 4) (h5 : P 5) (h6 : P 6) (h7 : P 7) (h8 : P 8) (h9 : P 9) : ∀ f, f < 10 → P f
  | 0, _ => h0 | 1, _ => h1 | 2, _ => h2 | 3, _ => h3 | 4, _ => h4 | 5, _ => h5 | 6, _ => h6 | 7, _ => h7 | 8, _ => h8 | 9, _ => h9
  | n + 10, h => by omega
theorem lt5 {P : Nat → Prop} (h0 : P 0) (h1 : P 1) (h2 : P 2) (h3 : P 3) (h4 : P 4) : ∀ f, f < 5 → P f
  | 0, _ => h0 | 1, _ => h1 | 2, _ => h2 | 3, _ => h3 | 4, _ => h4
  | n + 5, h => by omega
theorem C_pcopy {q1 q2 : Nat} {m : Mem} (hne : q2 ≠ q1) : ∃ m', f_Prophecy_copyFrom q1 q2 m = some m' ∧ (∀ f, f < 10 → m' 5 q1 f = m 5 q2 f) ∧ ∀ K i, ¬ (K = 5 ∧ i = q1) → m' K i = m K i := by
  unfold f_Prophecy_copyFrom
  simp only [nm_9, st3_J hne]
  refine ⟨_, rfl, ?_, fun K i hi => ?_⟩
  · apply lt10 <;> simp [st3_ua, ua]
  · by_cases e : K = 5
    · subst e
      have e2 : i ≠ q1 := fun z => hi ⟨rfl, z⟩
      simp only [st3_J e2]
    · simp only [st3_K e]
theorem C_ocopy {q1 q2 : Nat} {m : Mem} (hne : q2 ≠ q1) (h4 : m 4 q2 4 = 0 ∨ m 4 q2 4 = 1) : ∃ m', f_Owl_copyFrom q1 q2 m = some m' ∧ (∀ f, f < 5 → m' 4 q1 f = m 4 q2 f) ∧ ∀ K i, ¬ (K = 4 ∧ i = q1) → m' K i = m K i := by
  unfold f_Owl_copyFrom
  simp only [nm_9, st3_J hne, chk_of (nb01 h4)]
  refine ⟨_, rfl, ?_, fun K i hi => ?_⟩
  · apply lt5 <;> simp [st3_ua, ua]
  · by_cases e : K = 4
    · subst e
      have e2 : i ≠ q1 := fun z => hi ⟨rfl, z⟩
      simp only [st3_J e2]
    · simp only [st3_K e]
theorem cp3_K {μ : Mem} {K1 j1 K2 j2 sp dp n K : Nat} (h : K ≠ K2) : cp3 μ K1 j1 K2 j2 sp dp n K = μ K := by
  funext j f; unfold cp3; rw [if_neg (fun z => h z.1)]
theorem cp3_J {μ : Mem} {K1 j1 K2 j2 sp dp n j : Nat} (h : j ≠ j2) : cp3 μ K1 j1 K2 j2 sp dp n K2 j = μ K2 j := by
  funext f; unfold cp3; rw [if_neg (fun z => h z.2)]
theorem cp3_S {μ : Mem} {K1 j1 K2 j2 n f : Nat} (h : f < n) : cp3 μ K1 j1 K2 j2 0 0 n K2 j2 f = μ K1 j1 f := by
  unfold cp3; rw [if_pos ⟨rfl, rfl⟩, pk_cpy_in (by omega) (by omega)]
  congr 1
  omega
/-- what a shop's copy holds -/
def CPY (μ μ' : Mem) (j1 j2 : Nat) : Prop :=
  (∀ K i, ¬ inS j1 K i → μ' K i = μ K i) ∧ (∀ f, (f = 0 ∨ f = 1 ∨ f = 2 ∨ f = 5 ∨ f = 8 ∨ f = 12 ∨ f = 13 ∨ f = 14) → μ' 9 j1 f = μ 9 j2 f) ∧ (∀ f, f < 8 → μ' 27 j1 f = μ 27 j2 f) ∧ (∀ f, f < 24 → μ' 30 j1 f = μ 30 j2 f) ∧
  (∀ f, f < 60 → μ' 31 j1 f = μ 31 j2 f) ∧ (∀ f, f < 60 → μ' 32 j1 f = μ 32 j2 f) ∧ (∀ f, f < 60 → μ' 33 j1 f = μ 33 j2 f) ∧ (∀ p, p < 24 → ∀ f, f < 10 → μ' 5 (24 * j1 + p) f = μ 5 (24 * j2 + p) f) ∧ ∀ o, o < 5 → ∀ f, f < 5 → μ' 4 (5 * j1 + o) f = μ 4 (5 * j2 + o) f
theorem C_copy {μ : Mem} {j1 j2 s : Nat} (hne : j2 ≠ j1) (h0 : μ 9 j2 0 = nI s) (hs : s < 2) (h4 : ∀ o, o < 5 → μ 4 (5 * j2 + o) 4 = 0 ∨ μ 4 (5 * j2 + o) 4 = 1) : ∃ μ', f_Shop_copyFrom j1 j2 μ = some μ' ∧ CPY μ μ' j1 j2 := by
  unfold f_Shop_copyFrom
  have hc1 : cpb 0 0 8 8 8 = true := by decide +kernel
  have hc2 : cpb 0 0 24 24 24 = true := by decide +kernel
  have hc3 : cpb 0 0 60 60 60 = true := by decide +kernel
  rw [hS_of h0 hs, chk_of (decide_eq_true hs)]
  simp only [nm_9, st3_J hne, hc1, hc2, hc3, chk_t, tn_0, tn_8, tn_24, tn_60]
  generalize hm : cp3 (cp3 (cp3 (cp3 (cp3 (st3 (st3 (st3 (st3 (st3 (st3 (st3 (st3 μ 9 j1 0 (Int32.ofNat s)) 9 j1 1 (μ 9 j2 1)) 9 j1 2 (μ 9 j2 2)) 9 j1 5 (μ 9 j2 5)) 9 j1 8 (μ 9 j2 8)) 9 j1 12 (μ 9 j2 12)) 9 j1 13 (μ 9 j2 13)) 9 j1 14 (μ 9 j2 14)) 27 j2 27 j1 0 0 8) 30 j2 30 j1 0 0 24) 31 j2 31 j1 0 0 60) 32 j2 32 j1 0 0 60) 33 j2 33 j1 0 0 60 = m
  have mK : ∀ K, K ≠ 9 → K ≠ 27 → K ≠ 30 → K ≠ 31 → K ≠ 32 → K ≠ 33 → m K = μ K := fun K a1 a2 a3 a4 a5 a6 => by
    rw [← hm, cp3_K a6, cp3_K a5, cp3_K a4, cp3_K a3, cp3_K a2, st3_K a1, st3_K a1, st3_K a1, st3_K a1, st3_K a1, st3_K a1, st3_K a1, st3_K a1]
  have mJ : ∀ K i, i ≠ j1 → m K i = μ K i := fun K i hi => by
    by_cases a1 : K = 9
    · subst a1
      rw [← hm, cp3_K (by omega), cp3_K (by omega), cp3_K (by omega), cp3_K (by omega), cp3_K (by omega)]
      simp only [st3_J hi]
    · by_cases a2 : K = 27
      · subst a2
        rw [← hm, cp3_K (by omega), cp3_K (by omega), cp3_K (by omega), cp3_K (by omega), cp3_J hi]
        simp only [st3_K a1]
      · by_cases a3 : K = 30
        · subst a3
          rw [← hm, cp3_K (by omega), cp3_K (by omega), cp3_K (by omega), cp3_J hi, cp3_K (by omega)]
          simp only [st3_K a1]
        · by_cases a4 : K = 31
          · subst a4
            rw [← hm, cp3_K (by omega), cp3_K (by omega), cp3_J hi, cp3_K (by omega), cp3_K (by omega)]
            simp only [st3_K a1]
          · by_cases a5 : K = 32
            · subst a5
              rw [← hm, cp3_K (by omega), cp3_J hi, cp3_K (by omega), cp3_K (by omega), cp3_K (by omega)]
              simp only [st3_K a1]
            · by_cases a6 : K = 33
              · subst a6
                rw [← hm, cp3_J hi, cp3_K (by omega), cp3_K (by omega), cp3_K (by omega), cp3_K (by omega)]
                simp only [st3_K a1]
              · rw [mK K a1 a2 a3 a4 a5 a6]
  have m9 : ∀ f, (f = 0 ∨ f = 1 ∨ f = 2 ∨ f = 5 ∨ f = 8 ∨ f = 12 ∨ f = 13 ∨ f = 14) → m 9 j1 f = μ 9 j2 f := by
    intro f hf
    rw [← hm, cp3_K (by omega), cp3_K (by omega), cp3_K (by omega), cp3_K (by omega), cp3_K (by omega)]
    simp only [st3_ua]
    rcases hf with rfl | rfl | rfl | rfl | rfl | rfl | rfl | rfl <;> simp [ua, h0, nI]
  have m27 : ∀ f, f < 8 → m 27 j1 f = μ 27 j2 f := fun f hf => by
    rw [← hm, cp3_K (by omega), cp3_K (by omega), cp3_K (by omega), cp3_K (by omega), cp3_S hf]
    simp only [st3_K (show 27 ≠ 9 by omega)]
  have m30 : ∀ f, f < 24 → m 30 j1 f = μ 30 j2 f := fun f hf => by
    rw [← hm, cp3_K (by omega), cp3_K (by omega), cp3_K (by omega), cp3_S hf, cp3_K (by omega)]
    simp only [st3_K (show 30 ≠ 9 by omega)]
  have m31 : ∀ f, f < 60 → m 31 j1 f = μ 31 j2 f := fun f hf => by
    rw [← hm, cp3_K (by omega), cp3_K (by omega), cp3_S hf, cp3_K (by omega), cp3_K (by omega)]
    simp only [st3_K (show 31 ≠ 9 by omega)]
  have m32 : ∀ f, f < 60 → m 32 j1 f = μ 32 j2 f := fun f hf => by
    rw [← hm, cp3_K (by omega), cp3_S hf, cp3_K (by omega), cp3_K (by omega), cp3_K (by omega)]
    simp only [st3_K (show 32 ≠ 9 by omega)]
  have m33 : ∀ f, f < 60 → m 33 j1 f = μ 33 j2 f := fun f hf => by
    rw [← hm, cp3_S hf, cp3_K (by omega), cp3_K (by omega), cp3_K (by omega), cp3_K (by omega)]
    simp only [st3_K (show 33 ≠ 9 by omega)]
  have mF : ∀ K i, ¬ inS j1 K i → m K i = μ K i := fun K i hi => by
    by_cases e : i = j1
    · subst e
      rw [mK K] <;> (intro z; subst z; exact hi (Or.inl ⟨by omega, rfl⟩))
    · exact mJ K i e
  clear hm
  refine it_fr (f := fun q : Int32 × Mem => s_Shop_copyFrom_141 j1 j2 q.1 q.2) (s := (0, m)) (fun i q => ∃ v, q = (nI i, v) ∧ (∀ K, K ≠ 5 → v K = m K) ∧ (∀ p, (∀ z, z < i → p ≠ 24 * j1 + z) → v 5 p = m 5 p) ∧ ∀ p, p < i → ∀ f, f < 10 → v 5 (24 * j1 + p) f = μ 5 (24 * j2 + p) f)
    (fun v => (∀ K, K ≠ 5 → v K = m K) ∧ (∀ p, (∀ z, z < 24 → p ≠ 24 * j1 + z) → v 5 p = m 5 p) ∧ ∀ p, p < 24 → ∀ f, f < 10 → v 5 (24 * j1 + p) f = μ 5 (24 * j2 + p) f) 24 0 (by omega) (by omega) ⟨m, rfl, fun _ _ => rfl, fun _ _ => rfl, fun p hp => by omega⟩ ?_ ?_ ?_
  · rintro i hi _ ⟨v, rfl, v1, v2, v3⟩
    obtain ⟨m', e1, e2, e3⟩ := C_pcopy (q1 := 24 * j1 + i) (q2 := 24 * j2 + i) (m := v) (by omega)
    refine ⟨(nI (i + 1), m'), ?_, m', rfl, fun K hK => ?_, fun p hp => ?_, fun p hp f hf => ?_⟩
    · show s_Shop_copyFrom_141 j1 j2 (nI i) v = _
      unfold s_Shop_copyFrom_141
      rw [if_neg (gl_24 hi), chk_of (inb_of hi (by omega)), chk_of (inb_of hi (by omega)), nI_clamp (by omega), e1, bind_s, nI_1]
    · rw [← v1 K hK]; funext p; exact e3 K p (by omega)
    · rw [e3 5 p (fun z => hp i (by omega) z.2)]; exact v2 p (fun z hz => hp z (by omega))
    · by_cases e : p = i
      · subst e
        rw [e2 f hf, v2 (24 * j2 + p) (fun z hz => by omega), mK 5 (by omega) (by omega) (by omega) (by omega) (by omega) (by omega)]
      · rw [e3 5 _ (by omega)]; exact v3 p (by omega) f hf
  · rintro _ ⟨v, rfl, v1, v2, v3⟩
    refine ⟨v, ?_, v1, v2, v3⟩
    show s_Shop_copyFrom_141 j1 j2 (nI 24) v = _
    unfold s_Shop_copyFrom_141
    rw [if_pos (lg_24 (Nat.le_refl _) (by omega))]
  · rintro v e9 ⟨v1, v2, v3⟩
    rw [e9, bind_s]
    refine it_fr (f := fun q : Int32 × Mem => s_Shop_copyFrom_170 j1 j2 q.1 q.2) (s := (0, v)) (fun i q => ∃ u, q = (nI i, u) ∧ (∀ K, K ≠ 4 → u K = v K) ∧ (∀ p, (∀ z, z < i → p ≠ 5 * j1 + z) → u 4 p = v 4 p) ∧ ∀ p, p < i → ∀ f, f < 5 → u 4 (5 * j1 + p) f = μ 4 (5 * j2 + p) f)
      (fun u => (∀ K, K ≠ 4 → u K = v K) ∧ (∀ p, (∀ z, z < 5 → p ≠ 5 * j1 + z) → u 4 p = v 4 p) ∧ ∀ p, p < 5 → ∀ f, f < 5 → u 4 (5 * j1 + p) f = μ 4 (5 * j2 + p) f) 5 0 (by omega) (by omega) ⟨v, rfl, fun _ _ => rfl, fun _ _ => rfl, fun p hp => by omega⟩ ?_ ?_ ?_
    · rintro i hi _ ⟨u, rfl, u1, u2, u3⟩
      have w4 : u 4 (5 * j2 + i) = μ 4 (5 * j2 + i) := by
        rw [u2 (5 * j2 + i) (fun z hz => by omega), v1 4 (by omega), mK 4 (by omega) (by omega) (by omega) (by omega) (by omega) (by omega)]
      obtain ⟨m', e1, e2, e3⟩ := C_ocopy (q1 := 5 * j1 + i) (q2 := 5 * j2 + i) (m := u) (by omega) (by rw [w4]; exact h4 i hi)
      refine ⟨(nI (i + 1), m'), ?_, m', rfl, fun K hK => ?_, fun p hp => ?_, fun p hp f hf => ?_⟩
      · show s_Shop_copyFrom_170 j1 j2 (nI i) u = _
        unfold s_Shop_copyFrom_170
        rw [if_neg (gl_5 hi), chk_of (inb_of hi (by omega)), chk_of (inb_of hi (by omega)), nI_clamp (by omega), e1, bind_s, nI_1]
      · rw [← u1 K hK]; funext p; exact e3 K p (by omega)
      · rw [e3 4 p (fun z => hp i (by omega) z.2)]; exact u2 p (fun z hz => hp z (by omega))
      · by_cases e : p = i
        · subst e
          rw [e2 f hf, w4]
        · rw [e3 4 _ (by omega)]; exact u3 p (by omega) f hf
    · rintro _ ⟨u, rfl, u1, u2, u3⟩
      refine ⟨u, ?_, u1, u2, u3⟩
      show s_Shop_copyFrom_170 j1 j2 (nI 5) u = _
      unfold s_Shop_copyFrom_170
      rw [if_pos (lg_5 (Nat.le_refl _) (by omega))]
    · rintro u e8 ⟨u1, u2, u3⟩
      rw [e8, bind_s]
      have uK : ∀ K, K ≠ 4 → K ≠ 5 → u K = m K := fun K k1 k2 => (u1 K k1).trans (v1 K k2)
      refine ⟨u, rfl, fun K i hi => ?_, fun f hf => ?_, fun f hf => ?_, fun f hf => ?_, fun f hf => ?_, fun f hf => ?_, fun f hf => ?_, fun p hp f hf => ?_, fun o ho f hf => ?_⟩
      · by_cases k4 : K = 4
        · subst k4
          rw [u2 i (fun z hz e => hi (Or.inr (Or.inr ⟨rfl, by omega⟩))), v1 4 (by omega), mF 4 i hi]
        · by_cases k5 : K = 5
          · subst k5
            rw [u1 5 (by omega), v2 i (fun z hz e => hi (Or.inr (Or.inl ⟨rfl, by omega⟩))), mF 5 i hi]
          · rw [uK K k4 k5, mF K i hi]
      · rw [uK 9 (by omega) (by omega), m9 f hf]
      · rw [uK 27 (by omega) (by omega), m27 f hf]
      · rw [uK 30 (by omega) (by omega), m30 f hf]
      · rw [uK 31 (by omega) (by omega), m31 f hf]
      · rw [uK 32 (by omega) (by omega), m32 f hf]
      · rw [uK 33 (by omega) (by omega), m33 f hf]
      · rw [u1 5 (by omega)]; exact v3 p hp f hf
      · exact u3 o ho f hf
theorem SH.out {μ : Mem} {j E P C O n w t dd : Nat} {a : Nat → Int32} (h : SH μ j a E P C O n w t dd) : ∀ o, o < 5 → μ 4 (5 * j + o) 4 = 0 ∨ μ 4 (5 * j + o) 4 = 1 := by
  intro o ho
  by_cases e : o < O
  · obtain ⟨-, -, h3⟩ := h.2.2.1.1 o e
    rcases h3 with ⟨z, -⟩ | ⟨z, -⟩
    · exact Or.inr z
    · exact Or.inl z
  · exact Or.inl (h.2.2.1.2 o (by omega) ho).2.2
theorem SH.cpy {μ μ' : Mem} {j1 j2 E P C O n w t dd : Nat} {a : Nat → Int32} (h : SH μ j2 a E P C O n w t dd) (hc : CPY μ μ' j1 j2) (hC : C ≤ 8) (hO : O ≤ 5) : SH μ' j1 a E P C O n w t dd := by
  obtain ⟨h1, h2, h3, h4, h5, h6⟩ := h
  obtain ⟨-, c9, c27, c30, c31, c32, c33, c5, c4⟩ := hc
  have hn : n ≤ 24 := h1.1
  have hw : w ≤ 24 := h1.2.1
  have ht : t ≤ 60 := h1.2.2.1
  refine ⟨?_, fun p hp => (h2 p hp).cong (fun f hf => c5 p (by omega) f hf) (fun _ _ => rfl), ⟨fun o ho => (h3.1 o ho).cong (fun f hf => c4 o (by omega) f hf) (fun _ _ => rfl), fun o h7 h8 => ?_⟩, ⟨fun c hc => (c27 c (by omega)).trans (h4.1 c hc), fun c h7 h8 => (c27 c h8).trans (h4.2 c h7 h8)⟩, ⟨fun k hk => ?_, h5.2⟩, fun i hi => ?_⟩
  · unfold SHs at h1 ⊢
    rw [c9 1 (by omega), c9 2 (by omega), c9 5 (by omega), c9 8 (by omega), c9 12 (by omega), c9 13 (by omega), c9 14 (by omega)]
    exact h1
  · show μ' 4 (5 * j1 + o) 0 = 0 ∧ μ' 4 (5 * j1 + o) 1 = 0 ∧ μ' 4 (5 * j1 + o) 4 = 0
    rw [c4 o h8 0 (by omega), c4 o h8 1 (by omega), c4 o h8 4 (by omega)]
    exact h3.2 o h7 h8
  · rw [c30 k (by omega)]; exact h5.1 k hk
  · rw [c31 i (by omega), c32 i (by omega), c33 i (by omega)]; exact h6 i hi

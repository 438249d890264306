/-! The shop is opened; load. -/
section Open
variable {μ ν : Mem} {s E P C O n w t dd h L : Nat} {π : Nat → Nat} {B : Nat → Nat}
theorem C_rest {q : Nat} {m : Mem} : f_Owl_rest q m = some (st3 (st3 (st3 m 4 q 0 0) 4 q 1 0) 4 q 4 0) := rfl
theorem C_open (hs : s < 2) (hc : μ 3 (3 * s + 2) 1 = nI C) (hC : C ≤ 8) : ∃ m, f_Shop_openWith 0 s μ = some m ∧ (∀ K i, ¬ inS 0 K i → m K i = μ K i) ∧ (m 9 0 0 = nI s ∧ m 9 0 1 = 0 ∧ m 9 0 2 = μ 7 s 0 ∧ m 9 0 5 = 0 ∧ m 9 0 8 = 0 ∧ m 9 0 12 = 0 ∧ m 9 0 13 = 0 ∧ m 9 0 14 = 0) ∧ (∀ c, c < 8 → m 27 0 c = if c < C then μ 24 s c else 0) ∧ ∀ o, o < 5 → m 4 (5 * 0 + o) 0 = 0 ∧ m 4 (5 * 0 + o) 1 = 0 ∧ m 4 (5 * 0 + o) 4 = 0 := by
  have e72 : (st3 (st3 μ 9 0 0 (nI s)) 9 0 1 0) 7 s 0 = μ 7 s 0 := by rw [st3_K (by omega), st3_K (by omega)]
  generalize hm1 : st3 (st3 (st3 μ 9 0 0 (nI s)) 9 0 1 0) 9 0 2 (μ 7 s 0) = m1
  have a1 : ∀ K, K ≠ 9 → m1 K = μ K := fun K k => by rw [← hm1, st3_K k, st3_K k, st3_K k]
  have a2 : ∀ j, j ≠ 0 → m1 9 j = μ 9 j := fun j k => by rw [← hm1, st3_J k, st3_J k, st3_J k]
  have l1 : ∃ m2, it (fun (q : Int32 × Mem) => s_Shop_openWith_20 0 s q.1 q.2) LIM (0, m1) = some m2 ∧ (∀ K, K ≠ 27 → m2 K = m1 K) ∧ (∀ j, j ≠ 0 → m2 27 j = m1 27 j) ∧ ∀ c, c < 8 → m2 27 0 c = if c < C then μ 24 s c else 0 := by
    refine it_fr (f := fun (q : Int32 × Mem) => s_Shop_openWith_20 0 s q.1 q.2) (s := (0, m1)) (fun i q => ∃ m, q = (nI i, m) ∧ (∀ K, K ≠ 27 → m K = m1 K) ∧ (∀ j, j ≠ 0 → m 27 j = m1 27 j) ∧ ∀ c, c < i → m 27 0 c = if c < C then μ 24 s c else 0) (fun m => (∀ K, K ≠ 27 → m K = m1 K) ∧ (∀ j, j ≠ 0 → m 27 j = m1 27 j) ∧ ∀ c, c < 8 → m 27 0 c = if c < C then μ 24 s c else 0) 8 0 (by omega) (by omega) ⟨m1, rfl, fun _ _ => rfl, fun _ _ => rfl, fun _ z => absurd z (by omega)⟩ ?_ ?_ (fun r q1 q2 => ⟨r, q1, q2⟩)
    · rintro i hi _ ⟨m, rfl, b1, b2, b3⟩
      show ∃ s', s_Shop_openWith_20 0 s (nI i) m = some (.inl s') ∧ _
      have hf : f_Setup_firstCoinsOf s (nI i) m = some (if i < C then μ 24 s i else 0) := by
        unfold f_Setup_firstCoinsOf
        rw [C_has (n := C) (by rw [b1 3 (by omega), a1 3 (by omega)]; exact hc), bind_s]
        by_cases c : i < C
        · rw [ixB_in (by omega) c, if_neg (by decide), chk_of (inb_of hi (by omega)), nI_clamp (by omega), if_pos c, b1 24 (by omega), a1 24 (by omega)]
        · rw [show ixB (nI i) C = 0 by unfold ixB; rw [if_pos (Or.inr (nI_le (by omega) (by omega)))], if_pos rfl, if_neg c]
      unfold s_Shop_openWith_20
      rw [if_neg (gl_8 hi), hf, bind_s, chk_of (inb_of hi (by omega)), nI_clamp (by omega), nm_9, nI_1]
      refine ⟨_, rfl, _, rfl, fun K k => by rw [st3_K k]; exact b1 K k, fun j k => by rw [st3_J k]; exact b2 j k, fun c hc => ?_⟩
      rw [st3_ua]
      by_cases e : c = i
      · subst e; rw [ua_S]
      · rw [ua_N e]; exact b3 c (by omega)
    · rintro _ ⟨m, rfl, b1, b2, b3⟩
      show ∃ r, s_Shop_openWith_20 0 s (nI 8) m = some (.inr r) ∧ _
      unfold s_Shop_openWith_20
      rw [if_pos (lg_8 (Nat.le_refl _) (by omega))]
      exact ⟨m, rfl, b1, b2, b3⟩
  obtain ⟨m2, q1, b1, b2, b3⟩ := l1
  have l2 : ∃ m3, it (fun (q : Int32 × Mem) => s_Shop_openWith_45 0 q.1 q.2) LIM (0, m2) = some m3 ∧ (∀ K, K ≠ 4 → m3 K = m2 K) ∧ (∀ j, 5 ≤ j → m3 4 j = m2 4 j) ∧ ∀ o, o < 5 → m3 4 (5 * 0 + o) 0 = 0 ∧ m3 4 (5 * 0 + o) 1 = 0 ∧ m3 4 (5 * 0 + o) 4 = 0 := by
    refine it_fr (f := fun (q : Int32 × Mem) => s_Shop_openWith_45 0 q.1 q.2) (s := (0, m2)) (fun i q => ∃ m, q = (nI i, m) ∧ (∀ K, K ≠ 4 → m K = m2 K) ∧ (∀ j, 5 ≤ j → m 4 j = m2 4 j) ∧ ∀ o, o < i → m 4 (5 * 0 + o) 0 = 0 ∧ m 4 (5 * 0 + o) 1 = 0 ∧ m 4 (5 * 0 + o) 4 = 0) (fun m => (∀ K, K ≠ 4 → m K = m2 K) ∧ (∀ j, 5 ≤ j → m 4 j = m2 4 j) ∧ ∀ o, o < 5 → m 4 (5 * 0 + o) 0 = 0 ∧ m 4 (5 * 0 + o) 1 = 0 ∧ m 4 (5 * 0 + o) 4 = 0) 5 0 (by omega) (by omega) ⟨m2, rfl, fun _ _ => rfl, fun _ _ => rfl, fun _ z => absurd z (by omega)⟩ ?_ ?_ (fun r q1 q2 => ⟨r, q1, q2⟩)
    · rintro i hi _ ⟨m, rfl, c1, c2, c3⟩
      show ∃ s', s_Shop_openWith_45 0 (nI i) m = some (.inl s') ∧ _
      unfold s_Shop_openWith_45
      rw [if_neg (gl_5 hi), chk_of (inb_of hi (by omega)), nI_clamp (by omega), C_rest, bind_s, nI_1]
      refine ⟨_, rfl, _, rfl, fun K k => by rw [st3_K k, st3_K k, st3_K k]; exact c1 K k, fun j k => by rw [st3_J (by omega), st3_J (by omega), st3_J (by omega)]; exact c2 j k, fun o ho => ?_⟩
      by_cases e : o = i
      · subst e
        rw [st3_ua, st3_ua, st3_ua]
        exact ⟨by rw [ua_N (by omega), ua_N (by omega), ua_S], by rw [ua_N (by omega), ua_S], by rw [ua_S]⟩
      · rw [st3_J (by omega), st3_J (by omega), st3_J (by omega)]; exact c3 o (by omega)
    · rintro _ ⟨m, rfl, c1, c2, c3⟩
      show ∃ r, s_Shop_openWith_45 0 (nI 5) m = some (.inr r) ∧ _
      unfold s_Shop_openWith_45
      rw [if_pos (lg_5 (Nat.le_refl _) (by omega))]
      exact ⟨m, rfl, c1, c2, c3⟩
  obtain ⟨m3, q2, c1, c2, c3⟩ := l2
  generalize hm4 : st3 (st3 (st3 (st3 (st3 m3 9 0 5 0) 9 0 8 0) 9 0 12 0) 9 0 13 0) 9 0 14 0 = m4
  have d1 : ∀ K, K ≠ 9 → m4 K = m3 K := fun K k => by rw [← hm4, st3_K k, st3_K k, st3_K k, st3_K k, st3_K k]
  have d2 : ∀ j, j ≠ 0 → m4 9 j = m3 9 j := fun j k => by rw [← hm4, st3_J k, st3_J k, st3_J k, st3_J k, st3_J k]
  have d3 : m4 9 0 = ua (ua (ua (ua (ua (ua (ua (ua (μ 9 0) 0 (nI s)) 1 0) 2 (μ 7 s 0)) 5 0) 8 0) 12 0) 13 0) 14 0 := by
    rw [← hm4, st3_ua, st3_ua, st3_ua, st3_ua, st3_ua, c1 9 (by omega), b1 9 (by omega), ← hm1, st3_ua, st3_ua, st3_ua]
  refine ⟨m4, ?_, fun K i q => ?_, ?_, fun c hc' => ?_, fun o ho => ?_⟩
  · unfold f_Shop_openWith
    rw [nm_9, nm_9, show Int32.ofNat s = nI s from rfl, e72, nm_9, hm1, q1, bind_s, q2, bind_s, nm_9, nm_9, nm_9, nm_9, nm_9, hm4]
  · by_cases k9 : K = 9
    · subst k9
      have : i ≠ 0 := fun z => q (Or.inl ⟨Or.inl rfl, z⟩)
      rw [d2 i this, c1 9 (by omega), b1 9 (by omega), a2 i this]
    · rw [d1 K k9]
      by_cases k4 : K = 4
      · subst k4
        have : 5 ≤ i := by unfold inS at q; omega
        rw [c2 i this, b1 4 (by omega), a1 4 (by omega)]
      · rw [c1 K k4]
        by_cases k27 : K = 27
        · subst k27
          have : i ≠ 0 := by unfold inS at q; omega
          rw [b2 i this, a1 27 (by omega)]
        · rw [b1 K k27, a1 K k9]
  · rw [d3]
    refine ⟨?_, ?_, ?_, ?_, ?_, ?_, ?_, ?_⟩
    · rw [ua_N (by omega), ua_N (by omega), ua_N (by omega), ua_N (by omega), ua_N (by omega), ua_N (by omega), ua_N (by omega), ua_S]
    · rw [ua_N (by omega), ua_N (by omega), ua_N (by omega), ua_N (by omega), ua_N (by omega), ua_N (by omega), ua_S]
    · rw [ua_N (by omega), ua_N (by omega), ua_N (by omega), ua_N (by omega), ua_N (by omega), ua_S]
    · rw [ua_N (by omega), ua_N (by omega), ua_N (by omega), ua_N (by omega), ua_S]
    · rw [ua_N (by omega), ua_N (by omega), ua_N (by omega), ua_S]
    · rw [ua_N (by omega), ua_N (by omega), ua_S]
    · rw [ua_N (by omega), ua_S]
    · rw [ua_S]
  · rw [d1 27 (by omega), c1 27 (by omega)]; exact b3 c hc'
  · rw [d1 4 (by omega)]; exact c3 o ho
/-- a fresh shop is alike -/
theorem SH_fresh {m : Mem} {a : Nat → Int32} (hT : ST μ s a E P C O) (hF : (a 5 = 0 ∧ a 10 = 0 ∧ a 11 = 0 ∧ a 12 = 0 ∧ a 13 = 0 ∧ a 14 = 0) ∧ a 0 = μ 7 s 0 ∧ (∀ c, c < C → a (28 + 3 * c + 1) = μ 24 s c) ∧ (∀ o, o < 5 → a (52 + 5 * o + 1) = 0 ∧ a (52 + 5 * o + 2) = 0) ∧ ∀ o, o < O → a (52 + 5 * o + 3) = -1)
    (h9 : m 9 0 0 = nI s ∧ m 9 0 1 = 0 ∧ m 9 0 2 = μ 7 s 0 ∧ m 9 0 5 = 0 ∧ m 9 0 8 = 0 ∧ m 9 0 12 = 0 ∧ m 9 0 13 = 0 ∧ m 9 0 14 = 0) (h27 : ∀ c, c < 8 → m 27 0 c = if c < C then μ 24 s c else 0) (h4 : ∀ o, o < 5 → m 4 (5 * 0 + o) 0 = 0 ∧ m 4 (5 * 0 + o) 1 = 0 ∧ m 4 (5 * 0 + o) 4 = 0) : SH m 0 a E P C O 0 0 0 0 := by
  obtain ⟨⟨f5, f10, f11, f12, f13, f14⟩, f0, fc, fo, fo3⟩ := hF
  obtain ⟨g0, g1, g2, g5, g8, g12, g13, g14⟩ := h9
  have hC : C ≤ 8 := hT.2.2.2.1
  have hO : O ≤ 5 := hT.2.2.2.2.1
  refine ⟨⟨by omega, by omega, by omega, by omega, g1, f5, g2.trans f0.symm, g5, f10, g8, f12, g12, f11, g13.trans f13.symm, g14.trans f14.symm⟩, fun p hp => absurd hp (by omega), ⟨fun o ho => ?_, fun o _ ho => h4 o ho⟩, ⟨fun c hc => ?_, fun c h1 h2 => ?_⟩, ⟨fun k hk => absurd hk (by omega), fun k _ hk => absurd hk (by omega)⟩, fun i hi => absurd hi (by omega)⟩
  · have q := h4 o (by omega)
    have r := fo o (by omega)
    exact ⟨⟨0, by omega, q.1, r.1⟩, q.2.1.trans r.2.symm, Or.inr ⟨q.2.2, fo3 o ho, r.2⟩⟩
  · rw [h27 c (by omega), if_pos hc, fc c hc]
  · rw [h27 c h2, if_neg (by omega)]
/-- what opening leaves as it was -/
def FO (s : Nat) (μ m : Mem) : Prop := ∀ K i, K ≠ 8 → K ≠ 11 → K ≠ 36 → K ≠ 2 → K ≠ 12 → ¬ inS 0 K i → ¬ (K = 3 ∧ i / 3 = s) → ¬ (K = 23 ∧ i / 3 = s) → ¬ ((K = 7 ∨ K = 24 ∨ K = 25 ∨ K = 26) ∧ i = s) → m K i = μ K i
theorem L_open (hs : s < 2) (hX : TX μ ν B L) (h12 : μ 12 0 3 = nI s ∧ μ 12 0 4 = nI (1 - s)) (hz : ∀ k, k < 524 → ν 40 0 k = 0) :
    ∃ er m v1 v, f_P_openShop μ = some (er, m) ∧ f_R_starts ν = some v1 ∧ f_R_readsSetup v1 = some v ∧ er = v 13 0 16 ∧ m 8 0 5 = v 13 0 17 ∧ m 11 0 1 = 0 ∧ m 20 = μ 20 ∧ (∀ f, f ≠ 3 → f ≠ 4 → m 12 0 f = μ 12 0 f) ∧ FO (1 - s) μ m ∧ ((∀ K, K ≠ 13 → K ≠ 40 → v K = ν K) ∧ ∀ f, (f < 12 ∨ 17 < f) → v 13 0 f = ν 13 0 f) ∧
      ((er ≠ 0 ∧ m 12 = μ 12 ∧ m 36 = μ 36 ∧ m 2 = μ 2 ∧ ∀ K i, inS 0 K i → m K i = μ K i) ∨ (er = 0 ∧ m 12 0 3 = nI (1 - s) ∧ m 12 0 4 = nI s ∧ m 2 0 1 = 0 ∧ (∀ i, i < 2 → m 36 0 i = 0) ∧ m 9 0 0 = nI (1 - s) ∧ ∃ E P C O, ST m (1 - s) (v 40 0) E P C O ∧ SH m 0 (v 40 0) E P C O 0 0 0 0)) := by
  have hs2 : 1 - s < 2 := by omega
  obtain ⟨m1, v1, v, E, P, C, O, e1, e2, e3, ⟨hR, hS, hT⟩, hF⟩ := L_setup (s := 1 - s) hs2 hX hz
  generalize hm2 : st3 m1 11 0 1 0 = m2
  have k2 : ∀ K, K ≠ 11 → m2 K = m1 K := fun K q => by rw [← hm2, st3_K q]
  have d3 : m1 12 0 = μ 12 0 := by rw [hF.1 12 0 (by omega) (by omega) (by omega) (by omega)]
  have er : m1 8 0 4 = v 13 0 16 := hR.er
  have er5 : m1 8 0 5 = v 13 0 17 := by obtain ⟨b, e, -, -, -, -, -, q⟩ := hR; exact q
  have h20 : m1 20 = μ 20 := by funext i; exact hF.1 20 i (by omega) (by omega) (by omega) (by omega)
  have hc4 : (μ 12 0 4).toNatClampNeg = 1 - s := by rw [h12.2, nI_clamp (by omega)]
  have hc3 : (μ 12 0 3).toNatClampNeg = s := by rw [h12.1, nI_clamp (by omega)]
  have m2_12 : m2 12 0 = μ 12 0 := by rw [k2 12 (by omega), d3]
  by_cases z : m1 8 0 4 = 0
  · obtain ⟨hT, hFS⟩ := hT z
    generalize hm3 : st3 (st3 m2 12 0 3 (nI (1 - s))) 12 0 4 (nI s) = m3
    have k3 : ∀ K, K ≠ 12 → m3 K = m2 K := fun K q => by rw [← hm3, st3_K q, st3_K q]
    have m3_3 : m3 12 0 3 = nI (1 - s) := by rw [← hm3, st3_ua, ua_N (by omega), st3_ua, ua_S]
    obtain ⟨m4, o1, o2, o3, o4, o5⟩ := C_open (μ := m3) (s := 1 - s) (C := C) hs2 (by rw [k3 3 (by omega), k2 3 (by omega)]; exact hT.2.2.2.2.2.2.2.1.1) hT.2.2.2.1
    generalize hm5 : st3 m4 2 0 1 0 = m5
    have lp : ∃ m6, it (fun (q : Int32 × Mem) => s_P_openShop_63 (m1 8 0 4) q.1 q.2) LIM (0, m5) = some m6 ∧ (∀ K, K ≠ 36 → m6 K = m5 K) ∧ ∀ i, i < 2 → m6 36 0 i = 0 := by
      refine it_fr (f := fun (q : Int32 × Mem) => s_P_openShop_63 (m1 8 0 4) q.1 q.2) (s := (0, m5)) (fun i q => ∃ m, q = (nI i, m) ∧ (∀ K, K ≠ 36 → m K = m5 K) ∧ ∀ c, c < i → m 36 0 c = 0) (fun m => (∀ K, K ≠ 36 → m K = m5 K) ∧ ∀ i, i < 2 → m 36 0 i = 0) 2 0 (by omega) (by omega) ⟨m5, rfl, fun _ _ => rfl, fun _ z => absurd z (by omega)⟩ ?_ ?_ (fun r q1 q2 => ⟨r, q1, q2⟩)
      · rintro i hi _ ⟨m, rfl, c1, c2⟩
        show ∃ s', s_P_openShop_63 (m1 8 0 4) (nI i) m = some (.inl s') ∧ _
        unfold s_P_openShop_63
        rw [if_neg (gl_2 hi), chk_of (inb_of hi (by omega)), nI_clamp (by omega), nm_9, nI_1]
        refine ⟨_, rfl, _, rfl, fun K k => by rw [st3_K k]; exact c1 K k, fun c hc => ?_⟩
        rw [st3_ua]
        by_cases e : c = i
        · subst e; rw [ua_S]
        · rw [ua_N e]; exact c2 c (by omega)
      · rintro _ ⟨m, rfl, c1, c2⟩
        show ∃ r, s_P_openShop_63 (m1 8 0 4) (nI 2) m = some (.inr r) ∧ _
        unfold s_P_openShop_63
        rw [if_pos (lg_2 (Nat.le_refl _) (by omega))]
        exact ⟨m, rfl, c1, c2⟩
    obtain ⟨m6, p1, p2, p3⟩ := lp
    have k5 : ∀ K, K ≠ 2 → m5 K = m4 K := fun K q => by rw [← hm5, st3_K q]
    have kk : ∀ K i, K ≠ 36 → K ≠ 2 → ¬ inS 0 K i → K ≠ 12 → K ≠ 11 → m6 K i = m1 K i := fun K i a1 a2 a3 a4 a5 => by rw [p2 K a1, k5 K a2, o2 K i a3, k3 K a4, k2 K a5]
    have kS : ∀ K, setK K → m6 K = m1 K := fun K q => by
      funext i
      exact kk K i (by unfold setK at q; omega) (by unfold setK at q; omega) (by unfold inS; unfold setK at q; omega) (by unfold setK at q; omega) (by unfold setK at q; omega)
    have k12 : m6 12 0 = m3 12 0 := by rw [p2 12 (by omega), k5 12 (by omega), o2 12 0 (by unfold inS; omega)]
    refine ⟨m1 8 0 4, m6, v1, v, ?_, e2, e3, er, ?_, ?_, ?_, fun f f1 f2 => ?_, ?_, ⟨hF.2.1, hF.2.2⟩, Or.inr ⟨z, ?_, ?_, ?_, p3, ?_, E, P, C, O, hT.mem kS, ?_⟩⟩
    · unfold f_P_openShop f_Text_shortenTo
      have s3 : m2 12 0 3 = nI s := by rw [m2_12]; exact h12.1
      have s4 : m2 12 0 4 = nI (1 - s) := by rw [m2_12]; exact h12.2
      rw [hc4, chk_of (decide_eq_true hs2), e1, bind_s, nm_9, hm2, bind_s, if_pos z, s3, s4, nI_clamp (by omega), nI_clamp (by omega), chk_of (decide_eq_true hs), chk_of (decide_eq_true hs2), show Int32.ofNat (1 - s) = nI (1 - s) from rfl, show Int32.ofNat s = nI s from rfl, nm_9, nm_9, hm3, m3_3, nI_clamp (by omega), chk_of (decide_eq_true hs2), o1, bind_s, nm_9, hm5, fst_, p1, bind_s]
    · rw [kk 8 0 (by omega) (by omega) (by unfold inS; omega) (by omega) (by omega)]; exact er5
    · rw [p2 11 (by omega), k5 11 (by omega), o2 11 0 (by unfold inS; omega), k3 11 (by omega), ← hm2, st3_ua, ua_S]
    · rw [← h20]
      funext i
      exact kk 20 i (by omega) (by omega) (by unfold inS; omega) (by omega) (by omega)
    · rw [k12, ← hm3, st3_ua, ua_N f2, st3_ua, ua_N f1, m2_12]
    · intro K i b1 b2 b3 b4 b5 b6 b7 b8 b9
      rw [kk K i b3 b4 b6 b5 b2, hF.1 K i b1 b7 b8 b9]
    · rw [k12, m3_3]
    · rw [k12, ← hm3, st3_ua, ua_S]
    · rw [p2 2 (by omega), ← hm5, st3_ua, ua_S]
    · rw [p2 9 (by omega), k5 9 (by omega)]; exact o3.1
    · refine SH_fresh (μ := m1) hT hFS ?_ ?_ ?_
      · rw [p2 9 (by omega), k5 9 (by omega)]
        have : m3 7 (1 - s) 0 = m1 7 (1 - s) 0 := by rw [k3 7 (by omega), k2 7 (by omega)]
        rw [this] at o3
        exact o3
      · intro c hc
        rw [p2 27 (by omega), k5 27 (by omega), o4 c hc, k3 24 (by omega), k2 24 (by omega)]
      · intro o ho
        rw [p2 4 (by omega), k5 4 (by omega)]
        exact o5 o ho
  · have kk : ∀ K i, K ≠ 11 → m2 K i = m1 K i := fun K i a => by rw [k2 K a]
    refine ⟨m1 8 0 4, m2, v1, v, ?_, e2, e3, er, ?_, ?_, ?_, fun f _ _ => by rw [m2_12], ?_, ⟨hF.2.1, hF.2.2⟩, Or.inl ⟨z, ?_, ?_, ?_, fun K i q => ?_⟩⟩
    · unfold f_P_openShop f_Text_shortenTo
      rw [hc4, chk_of (decide_eq_true hs2), e1, bind_s, nm_9, hm2, bind_s, if_neg z]
    · rw [kk 8 0 (by omega)]; exact er5
    · rw [← hm2, st3_ua, ua_S]
    · rw [k2 20 (by omega), h20]
    · intro K i b1 b2 b3 b4 b5 b6 b7 b8 b9
      rw [kk K i b2, hF.1 K i b1 b7 b8 b9]
    · rw [k2 12 (by omega)]; funext i; exact hF.1 12 i (by omega) (by omega) (by omega) (by omega)
    · rw [k2 36 (by omega)]; funext i; exact hF.1 36 i (by omega) (by omega) (by omega) (by omega)
    · rw [k2 2 (by omega)]; funext i; exact hF.1 2 i (by omega) (by omega) (by omega) (by omega)
    · rw [kk K i (by unfold inS at q; omega)]
      exact hF.1 K i (by unfold inS at q; omega) (by unfold inS at q; omega) (by unfold inS at q; omega) (by unfold inS at q; omega)
end Open

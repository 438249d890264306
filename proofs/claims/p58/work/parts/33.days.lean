/-! A day passes, in the class and in the law's own shop. -/
section Days
variable {c0 : Int32} {b : Nat} {μ ν : Mem} {j s E P C O n w t dd : Nat}
theorem C_isOverdue {q : Nat} {d : Int32} {m : Mem} : f_Prophecy_isOverdue q d m = some (if m 5 q 7 = 0 then (if d ≤ m 5 q 5 then 0 else 1) else 0) := by
  unfold f_Prophecy_isOverdue
  split
  · split <;> rfl
  · rfl
theorem dyn_row {p f : Nat} (hp : p < 24) : dynI (80 + 10 * p + f) := by unfold dynI; omega
theorem bindif {α β : Type} {c : Prop} [Decidable c] {x y : α} {F : α → Option β} : ((if c then some x else some y : Option α)).bind F = F (if c then x else y) := by
  split <;> rfl
theorem L_over (hC : C ≤ 8) (hO : O ≤ 5) (H : SH μ j (rO c0 b ν) E P C O n w t dd) (hI : CI (rO c0 b ν) C O n) : ∃ μ' ν', f_Shop_decideOverdue j μ = some μ' ∧ it (fun s : Int32 × Mem => s_Own_passes_12 b s.1 s.2) LIM (0, ν) = some ν' ∧ SH μ' j (rO c0 b ν') E P C O n w t dd ∧ FrC j μ μ' ∧ FrO c0 b ν ν' ∧ CI (rO c0 b ν') C O n ∧ OVD (rO c0 b ν') n dd := by
  have hn : n ≤ 24 := H.1.1
  have hdd : dd ≤ 20000 := H.1.2.2.2.1
  unfold f_Shop_decideOverdue
  refine it_fr2 (f1 := fun s : Int32 × Mem => s_Shop_decideOverdue_2 j s.1 s.2) (f2 := fun s : Int32 × Mem => s_Own_passes_12 b s.1 s.2) (a := (0, μ)) (b := (0, ν))
    (fun i a b' => ∃ m v, a = (nI i, m) ∧ b' = (nI i, v) ∧ SH m j (rO c0 b v) E P C O n w t dd ∧ FrC j μ m ∧ FrO c0 b ν v ∧ CI (rO c0 b v) C O n ∧ OVD (rO c0 b v) i dd) (fun m v => SH m j (rO c0 b v) E P C O n w t dd ∧ FrC j μ m ∧ FrO c0 b ν v ∧ CI (rO c0 b v) C O n ∧ OVD (rO c0 b v) n dd) n 0 (Nat.zero_le _) (by omega) ⟨μ, ν, rfl, rfl, H, FrC.rf, FrO.rf, hI, fun p hp => absurd hp (Nat.not_lt_zero _)⟩ ?_ ?_ (fun r1 r2 e1 e2 e3 => ⟨r1, r2, by rw [e1]; rfl, e2, e3⟩)
  · rintro i hi _ _ ⟨m, v, rfl, rfl, H, F1, F2, hI, hV⟩
    left
    have hr := H.2.1 i hi
    have h24 : i < 24 := by omega
    have h1 := H.1
    obtain ⟨-, -, -, -, s1, a5, s2, s5, a10, -⟩ := H.1
    obtain ⟨k1, k2, kk, k4, ⟨d2, hd2, q5, b5⟩, k6, q7, k8, k9, k10⟩ := H.2.1 i hi
    have o5 : v 60 b 5 = nI dd := (ro_0 (c0 := c0) (by omega)).symm.trans a5
    have o10 : v 60 b 10 = nI n := (ro_0 (c0 := c0) (by omega)).symm.trans a10
    have o72 : v 72 b i = nI d2 := (ro_p5 (c0 := c0) h24).symm.trans b5
    replace q5 : m 5 (24 * j + i) 5 = nI d2 := q5
    replace q7 : m 5 (24 * j + i) 7 = rO c0 b v (80 + 10 * i + 7) := q7
    have q7' := q7
    rw [ro_p7 h24] at q7'
    show ∃ a' b', s_Shop_decideOverdue_2 j (nI i) m = some (.inl a') ∧ s_Own_passes_12 b (nI i) v = some (.inl b') ∧ _
    unfold s_Shop_decideOverdue_2 s_Own_passes_12
    have hb : inb (nI i) 24 = true := inb_of h24 (by omega)
    have hc : (nI i).toNatClampNeg = i := nI_clamp (by omega)
    simp only [hb, chk_t, hc]
    rw [s5, if_neg (nI_ge hi (by omega)), C_isOverdue, bind_s, q7', q5, s1, o10, if_neg (nI_ge hi (by omega)), o72, o5, nI_1]
    by_cases c1 : v 74 b i = 0
    · rw [if_pos c1, if_pos c1]
      by_cases c2 : dd ≤ d2
      · rw [if_pos (nI_le c2 (by omega)), if_pos rfl, if_neg (nI_nlt c2 (by omega))]
        exact ⟨_, _, rfl, rfl, m, v, rfl, rfl, H, F1, F2, hI, fun p hp z => by
          by_cases e : p = i
          · subst e
            exact ⟨d2, c2, hd2, b5⟩
          · exact hV p (by omega) z⟩
      · rw [if_neg (nI_ge (by omega) (by omega)), if_neg (by decide), if_pos (nI_lt (by omega) (by omega)), C_decide, bind_s, bindif, nm_9, nm_9, st3_K (show 60 ≠ 74 by omega), o5]
        have key : (if (0 : Int32) = (if m 5 (24 * j + i) 1 = 2 then 0 else 1) then (1 : Int32) else 2) = (if v 78 b i = 0 then 2 else 1) := by
          rcases kk with ⟨g1, g2, g3, g4⟩ | ⟨g1, g2, g4⟩ | ⟨g1, g2, g4⟩
          · rw [show m 5 (24 * j + i) 1 = 1 from g1, show v 78 b i = _ from (ro_p3 (c0 := c0) h24).symm.trans g4]; rfl
          · rw [show m 5 (24 * j + i) 1 = 0 from g1, show v 78 b i = _ from (ro_p3 (c0 := c0) h24).symm.trans g4]; rfl
          · rw [show m 5 (24 * j + i) 1 = 2 from g1, show v 78 b i = _ from (ro_p3 (c0 := c0) h24).symm.trans g4]; rfl
        rw [key]
        generalize hv : (if v 78 b i = 0 then (2 : Int32) else 1) = z
        have hz : z = 1 ∨ z = 2 := by subst hv; split; exact Or.inr rfl; exact Or.inl rfl
        have er : rO c0 b (st3 (st3 v 74 b i z) 75 b i (nI dd)) = ua (ua (rO c0 b v) (80 + 10 * i + 7) z) (80 + 10 * i + 8) (nI dd) := by rw [sto_p8 h24, sto_p7 h24]
        refine ⟨_, _, rfl, rfl, _, _, rfl, rfl, ?_, (F1.st5 (by omega)).st5 (by omega), ?_, ?_, fun p hp y => ?_⟩
        · rw [er]
          refine H.setP i hi hC hO (fun K hK => by rw [st3_K hK, st3_K hK]) (fun p hp => by rw [st3_J (by omega), st3_J (by omega)]) (fun k hk => by rw [ua_N (by omega), ua_N (by omega)]) ?_
          rw [st3_two]
          exact hr.dec hz
        · exact (F2.up (sto_p7 h24) (dyn_row (by omega)) (by rw [st3_K (by omega)])).up (sto_p8 h24) (dyn_row (by omega)) (by rw [st3_K (by omega)])
        · rw [er]
          obtain ⟨zn, hzn, rfl⟩ : ∃ zn : Nat, (zn = 1 ∨ zn = 2) ∧ z = nI zn := by
            rcases hz with rfl | rfl
            · exact ⟨1, Or.inl rfl, rfl⟩
            · exact ⟨2, Or.inr rfl, rfl⟩
          exact hI.dec hC hO hn hi (by rw [ro_p7 h24]; exact c1) hzn hdd (fun k _ z7 z8 => by rw [ua_N z8, ua_N z7]) (by rw [ua_N (by omega), ua_S]) ua_S
        · rw [er] at y ⊢
          by_cases e : p = i
          · subst e
            rw [ua_N (by omega), ua_S] at y
            rcases hz with rfl | rfl
            · exact absurd y (by decide)
            · exact absurd y (by decide)
          · rw [ua_N (by omega), ua_N (by omega)] at y ⊢
            exact hV p (by omega) y
    · rw [if_neg c1, if_neg c1, if_pos rfl]
      exact ⟨_, _, rfl, rfl, m, v, rfl, rfl, H, F1, F2, hI, fun p hp z => by
          by_cases e : p = i
          · subst e
            rw [ro_p7 h24] at z
            exact absurd z c1
          · exact hV p (by omega) z⟩
  · rintro _ _ ⟨m, v, rfl, rfl, H, F1, F2, hI, hV⟩
    obtain ⟨-, -, -, -, s1, a5, s2, s5, a10, -⟩ := H.1
    have o10 : v 60 b 10 = nI n := (ro_0 (c0 := c0) (by omega)).symm.trans a10
    show ∃ r1 r2, s_Shop_decideOverdue_2 j (nI n) m = some (.inr r1) ∧ s_Own_passes_12 b (nI n) v = some (.inr r2) ∧ _
    unfold s_Shop_decideOverdue_2 s_Own_passes_12
    rw [s5, if_pos (nI_le (Nat.le_refl _) (by omega)), o10, if_pos (nI_le (Nat.le_refl _) (by omega))]
    exact ⟨m, v, rfl, rfl, H, F1, F2, hI, hV⟩
theorem dyn_owl {o f : Nat} (ho : o < 5) (h1 : 1 ≤ f) (h4 : f ≤ 4) : dynI (52 + 5 * o + f) := by unfold dynI; omega
theorem dyn_pur {c : Nat} (hc : c < 8) : dynI (28 + 3 * c + 1) := by unfold dynI; omega
theorem C_fly0 {q : Nat} {m : Mem} (h : m 4 q 0 = 0) : f_Owl_fly q m = some (-1, m) := by
  unfold f_Owl_fly
  rw [if_pos h]
theorem C_fly1 {q d : Nat} {m : Mem} (h : m 4 q 0 = nI (d + 1)) (hd : d < 1000) : f_Owl_fly q m = some (if 0 < d ∨ m 4 q 4 = 0 then (-1, st3 m 4 q 0 (nI d)) else (m 4 q 2, st3 (st3 (st3 m 4 q 0 (nI d)) 4 q 4 0) 4 q 0 (m 4 q 3))) := by
  unfold f_Owl_fly
  rw [h, if_neg (by rw [eq_0 (by omega)]; omega), nI_pred]
  simp only [nm_9, st3_ua, ua_S]
  by_cases h1 : 0 < d
  · rw [if_pos (gg_0 h1 (by omega)), if_pos (Or.inl h1)]
  · rw [if_neg (ng_0 (by omega)), ua_N (by omega)]
    by_cases h2 : m 4 q 4 = 0
    · rw [if_pos h2, if_pos (Or.inr h2)]
    · rw [if_neg h2, if_neg (by rintro (z | z); exact h1 z; exact h2 z)]
      congr 2
theorem C_hand {q : Nat} {m : Mem} : f_Owl_handOver q m = some (m 4 q 1, st3 m 4 q 1 0) := rfl
/-- one owl, one day, in the law's own shop -/
theorem O_owl0 {i : Nat} (hi : i < O) (hO : O ≤ 5) (h9 : ν 60 b 9 = nI O) (h : ν 64 b i = 0) : s_Own_passes_83 b (nI i) ν = some (.inl (nI (i + 1), ν)) := by
  have hb : inb (nI i) 5 = true := inb_of (by omega) (by omega)
  have hc : (nI i).toNatClampNeg = i := nI_clamp (by omega)
  unfold s_Own_passes_83
  simp only [hb, chk_t, hc]
  rw [h9, if_neg (nI_ge hi (by omega)), bindif, bindif, h, nm_9, if_neg (show ¬ (0 : Int32) = 1 by decide), if_pos rfl, if_pos (show (0 : Int32) ≤ 0 by decide), nI_1, show (0 : Int32) - 0 = ν 64 b i by rw [h]; decide, st3_id]
theorem O_owl1 {i d : Nat} (hi : i < O) (hO : O ≤ 5) (h9 : ν 60 b 9 = nI O) (hd : d < 1000) (h : ν 64 b i = nI (d + 1)) (h1 : 0 < d ∨ ν 66 b i = -1) : s_Own_passes_83 b (nI i) ν = some (.inl (nI (i + 1), st3 ν 64 b i (nI d))) := by
  have hb : inb (nI i) 5 = true := inb_of (by omega) (by omega)
  have hc : (nI i).toNatClampNeg = i := nI_clamp (by omega)
  unfold s_Own_passes_83
  simp only [hb, chk_t, hc]
  rw [h9, if_neg (nI_ge hi (by omega)), bindif, bindif, h, nm_9, if_neg (le_0 (show 0 < d + 1 by omega) (by omega)), nI_1, nI_pred]
  by_cases e : d = 0
  · subst e
    rw [if_pos (show nI (0 + 1) = 1 from rfl), if_neg (by decide), st3_K (show 66 ≠ 64 by omega), h1.resolve_left (by omega), if_neg (by decide)]
  · rw [if_neg (show ¬ nI (d + 1) = 1 by rw [eq_1 (by omega)]; omega), if_pos rfl]
theorem O_owl2 {i c : Nat} (hi : i < O) (hO : O ≤ 5) (h9 : ν 60 b 9 = nI O) (h : ν 64 b i = nI 1) (hc8 : c < 8) (h1 : ν 66 b i = nI c) : s_Own_passes_83 b (nI i) ν = some (.inl (nI (i + 1), st3 (st3 (st3 (st3 (st3 ν 64 b i (nI 0)) 61 b c (ν 61 b c + ν 65 b i)) 65 b i 0) 66 b i (-1)) 64 b i (ν 67 b i))) := by
  have hb : inb (nI i) 5 = true := inb_of (by omega) (by omega)
  have hb8 : inb (nI c) 8 = true := inb_of (by omega) (by omega)
  have hc : (nI i).toNatClampNeg = i := nI_clamp (by omega)
  have hcc : (nI c).toNatClampNeg = c := nI_clamp (by omega)
  have m66 : ∀ x, st3 ν 64 b i x 66 b i = nI c := fun x => by rw [st3_K (by omega)]; exact h1
  have m61 : ∀ x, st3 ν 64 b i x 61 = ν 61 := fun x => by rw [st3_K (by omega)]
  have m65 : ∀ x, st3 ν 64 b i x 65 = ν 65 := fun x => by rw [st3_K (by omega)]
  unfold s_Own_passes_83
  simp only [hb, chk_t, hc, nm_9, bindif, m66, hb8, hcc, m61, m65]
  rw [h9, if_neg (nI_ge hi (by omega)), h, if_pos (show nI 1 = 1 from rfl), if_neg (show ¬ nI 1 ≤ 0 by decide), if_neg (show ¬ (1 : Int32) = 0 by decide), if_pos (i0le (by omega)), show nI 1 - 1 = nI 0 from rfl]
  rw [st3_K (show 67 ≠ 66 by omega), st3_K (show 67 ≠ 65 by omega), st3_K (show 67 ≠ 61 by omega), st3_K (show 67 ≠ 64 by omega), nI_1]
/-- one owl, one day -/
theorem L_owl (hC : C ≤ 8) (hO : O ≤ 5) (hn : n ≤ 24) (h9 : rO c0 b ν 9 = nI O) {i : Nat} (hi : i < O) (H : SH μ j (rO c0 b ν) E P C O n w t dd) (hI : CI (rO c0 b ν) C O n) (hV : OVD (rO c0 b ν) n dd) : ∃ m v, s_Shop_moveOwls_2 j (nI i) μ = some (.inl (nI (i + 1), m)) ∧ s_Own_passes_83 b (nI i) ν = some (.inl (nI (i + 1), v)) ∧ SH m j (rO c0 b v) E P C O n w t dd ∧ FrC j μ m ∧ FrO c0 b ν v ∧ CI (rO c0 b v) C O n ∧ OVD (rO c0 b v) n dd := by
  have h5 : i < 5 := by omega
  obtain ⟨⟨d, hd, q0, b1⟩, q1, hc⟩ := H.2.2.1.1 i hi
  have o9 : ν 60 b 9 = nI O := (ro_0 (c0 := c0) (by omega)).symm.trans h9
  replace q0 : μ 4 (5 * j + i) 0 = nI d := q0
  replace q1 : μ 4 (5 * j + i) 1 = rO c0 b ν (52 + 5 * i + 2) := q1
  have b1' : ν 64 b i = nI d := (ro_o1 (c0 := c0) h5).symm.trans b1
  unfold s_Shop_moveOwls_2
  rw [if_neg (gl_5 (by omega)), chk_of (inb_of (by omega) (by omega)), nI_clamp (by omega), nI_1]
  cases d with
  | zero =>
    rw [C_fly0 q0, bind_s, if_pos rfl, O_owl0 hi hO o9 b1']
    exact ⟨_, _, rfl, rfl, H, FrC.rf, FrO.rf, hI, hV⟩
  | succ d =>
    rw [C_fly1 q0 (by omega), bind_s]
    have small : ∀ f, f ≠ 1 → ua (rO c0 b ν) (52 + 5 * i + 1) (nI d) (52 + 5 * i + f) = rO c0 b ν (52 + 5 * i + f) := fun f hf => ua_N (by omega)
    have er : rO c0 b (st3 ν 64 b i (nI d)) = ua (rO c0 b ν) (52 + 5 * i + 1) (nI d) := sto_o1 h5
    have days : (μ 4 (5 * j + i) 4 = 0 ∨ 0 < d) → SH (st3 μ 4 (5 * j + i) 0 (nI d)) j (rO c0 b (st3 ν 64 b i (nI d))) E P C O n w t dd := by
      intro _
      rw [er]
      refine H.setO i hi hC hO (fun K hK => by rw [st3_K hK]) (fun o ho => by rw [st3_J (by omega)]) (fun k hk => by rw [ua_N (by omega)]) ?_
      rw [st3_ua]
      have u : ∀ f, f ≠ 0 → ua (μ 4 (5 * j + i)) 0 (nI d) f = μ 4 (5 * j + i) f := fun f hf => ua_N hf
      refine ⟨⟨d, by omega, ua_S, ua_S⟩, ?_, ?_⟩
      · rw [u 1 (by omega), small 2 (by omega)]; exact q1
      · rw [u 4 (by omega), u 2 (by omega), u 3 (by omega), small 2 (by omega), small 3 (by omega), small 4 (by omega)]; exact hc
    have F1 : FrC j μ (st3 μ 4 (5 * j + i) 0 (nI d)) := FrC.rf.st4 (by omega)
    have F2 : FrO c0 b ν (st3 ν 64 b i (nI d)) := FrO.rf.up er (dyn_owl (by omega) (by omega) (by omega)) (by rw [st3_K (by omega)])
    have hV' : OVD (rO c0 b (st3 ν 64 b i (nI d))) n dd := by
      rw [er]
      exact hV.cong hn (fun p hp z => by rw [ua_N (by omega)] at z; exact z) (fun p hp => ua_N (by omega))
    have tick : (rO c0 b ν (52 + 5 * i + 3) = -1 ∨ 0 < d) → CI (rO c0 b (st3 ν 64 b i (nI d))) C O n := by
      intro h
      rw [er]
      exact hI.tick hC hO hn hi (h.imp_right (fun z => ⟨d, z, by omega, rfl⟩))
    by_cases h1 : 0 < d
    · rw [if_pos (Or.inl h1), if_pos rfl, O_owl1 hi hO o9 (by omega) b1' (Or.inl h1)]
      exact ⟨_, _, rfl, rfl, days (Or.inr h1), F1, F2, tick (Or.inr h1), hV'⟩
    · obtain rfl : d = 0 := by omega
      rcases hc with ⟨q4, ⟨c, hcc, q2, b3⟩, d3, hd3, q3, b4⟩ | ⟨q4, b3, b2⟩
      · replace q4 : μ 4 (5 * j + i) 4 = 1 := q4
        replace q2 : μ 4 (5 * j + i) 2 = nI c := q2
        replace q3 : μ 4 (5 * j + i) 3 = nI d3 := q3
        have hc8 : c < 8 := by omega
        rw [if_neg (show ¬ (0 < 0 ∨ μ 4 (5 * j + i) 4 = 0) by rw [q4]; decide), q2, q3, if_neg (ne_m1 (by omega)), chk_of (inb_of (by omega) (by omega)), C_hand, bind_s, C_addCoins (by omega), bind_s,
          O_owl2 (c := c) hi hO o9 b1' hc8 ((ro_o3 (c0 := c0) h5).symm.trans b3)]
        have er2 : rO c0 b (st3 (st3 (st3 (st3 (st3 ν 64 b i (nI 0)) 61 b c (ν 61 b c + ν 65 b i)) 65 b i 0) 66 b i (-1)) 64 b i (ν 67 b i)) = ua (ua (ua (ua (ua (rO c0 b ν) (52 + 5 * i + 1) (nI 0)) (28 + 3 * c + 1) (rO c0 b ν (28 + 3 * c + 1) + rO c0 b ν (52 + 5 * i + 2))) (52 + 5 * i + 2) 0) (52 + 5 * i + 3) (-1)) (52 + 5 * i + 1) (nI d3) := by
          rw [sto_o1 h5, sto_o3 h5, sto_o2 h5, sto_c1 hc8, sto_o1 h5, ro_c1 hc8, ro_o2 h5, show ν 67 b i = nI d3 from (ro_o4 (c0 := c0) h5).symm.trans b4]
        refine ⟨_, _, rfl, rfl, ?_, ?_, ?_, ?_, ?_⟩
        · rw [er2]
          have e1 : (st3 (st3 (st3 (st3 μ 4 (5 * j + i) 0 (nI 0)) 4 (5 * j + i) 4 0) 4 (5 * j + i) 0 (nI d3)) 4 (5 * j + i) 1 0) 27 j c = μ 27 j c := by rw [st3_K (by omega), st3_K (by omega), st3_K (by omega), st3_K (by omega)]
          have e2 : (st3 (st3 (st3 μ 4 (5 * j + i) 0 (nI 0)) 4 (5 * j + i) 4 0) 4 (5 * j + i) 0 (nI d3)) 4 (5 * j + i) 1 = rO c0 b ν (52 + 5 * i + 2) := by rw [st3_ua, ua_N (by omega), st3_ua, ua_N (by omega), st3_ua, ua_N (by omega)]; exact q1
          have e3 : μ 27 j c = rO c0 b ν (28 + 3 * c + 1) := H.2.2.2.1.1 c hcc
          dsimp only
          rw [e1, e2, e3]
          have H1 := H.setC c (rO c0 b ν (28 + 3 * c + 1) + rO c0 b ν (52 + 5 * i + 2)) hcc hC hO
          refine H1.setO i hi hC hO (fun K hK => ?_) (fun o ho => ?_) (fun k hk => ?_) ?_
          · by_cases e : K = 27
            · subst e
              funext i'
              by_cases e9 : i' = j
              · subst e9; rw [st3_ua, st3_ua, st3_K hK, st3_K hK, st3_K hK, st3_K hK]
              · rw [st3_J e9, st3_J e9, st3_K hK, st3_K hK, st3_K hK, st3_K hK]
            · rw [st3_K e, st3_K e, st3_K hK, st3_K hK, st3_K hK, st3_K hK]
          · rw [st3_K (by omega), st3_J (by omega), st3_J (by omega), st3_J (by omega), st3_J (by omega), st3_K (by omega)]
          · rw [ua_N (by omega), ua_N (by omega), ua_N (by omega)]
            by_cases ek : k = 28 + 3 * c + 1
            · subst ek; rw [ua_S, ua_S]
            · rw [ua_N ek, ua_N ek, ua_N (by omega)]
          · refine ⟨⟨d3, by omega, ?_, ?_⟩, ?_, Or.inr ⟨?_, ?_, ?_⟩⟩
            · rw [st3_K (by omega), st3_ua, ua_N (by omega), st3_ua, ua_S]
            · exact ua_S
            · rw [st3_K (by omega), st3_ua, ua_S, ua_N (by omega), ua_N (by omega), ua_S]
            · rw [st3_K (by omega), st3_ua, ua_N (by omega), st3_ua, ua_N (by omega), st3_ua, ua_S]
            · rw [ua_N (by omega), ua_S]
            · rw [ua_N (by omega), ua_N (by omega), ua_S]
        · exact ((((F1.st4 (by omega)).st4 (by omega)).st4 (by omega)).stA (by omega))
        · exact (((F2.up (sto_c1 hc8) (dyn_pur (by omega)) (by rw [st3_K (by omega)])).up (sto_o2 h5) (dyn_owl (by omega) (by omega) (by omega)) (by rw [st3_K (by omega)])).up (sto_o3 h5) (dyn_owl (by omega) (by omega) (by omega)) (by rw [st3_K (by omega)])).up (sto_o1 h5) (dyn_owl (by omega) (by omega) (by omega)) (by rw [st3_K (by omega)])
        · rw [er2]
          refine hI.land hC hO hn hi hcc (fun k _ z1 z2 => ?_) ?_ ?_ ?_
          · rw [ua_N (by omega), ua_N (by omega), ua_N (by omega), ua_N z1, ua_N (by omega)]
          · rw [ua_N (by omega), ua_N (by omega), ua_N (by omega), ua_S]
          · rw [ua_N (by omega), ua_N (by omega), ua_S]
          · rw [ua_N (by omega), ua_S]
        · rw [er2]
          exact hV.cong hn (fun p hp z => by rw [ua_N (by omega), ua_N (by omega), ua_N (by omega), ua_N (by omega), ua_N (by omega)] at z; exact z) (fun p hp => by rw [ua_N (by omega), ua_N (by omega), ua_N (by omega), ua_N (by omega), ua_N (by omega)])
      · replace q4 : μ 4 (5 * j + i) 4 = 0 := q4
        rw [if_pos (Or.inr q4), if_pos rfl, O_owl1 hi hO o9 (by omega) b1' (Or.inr ((ro_o3 (c0 := c0) h5).symm.trans b3))]
        exact ⟨_, _, rfl, rfl, days (Or.inl q4), F1, F2, tick (Or.inl b3), hV'⟩
/-- all owls -/
theorem L_owls (hC : C ≤ 8) (hO : O ≤ 5) (hn : n ≤ 24) (h9 : rO c0 b ν 9 = nI O) (H : SH μ j (rO c0 b ν) E P C O n w t dd) (hI : CI (rO c0 b ν) C O n) (hV : OVD (rO c0 b ν) n dd) : ∃ μ' ν', f_Shop_moveOwls j μ = some μ' ∧ it (fun s : Int32 × Mem => s_Own_passes_83 b s.1 s.2) LIM (0, ν) = some ν' ∧ SH μ' j (rO c0 b ν') E P C O n w t dd ∧ FrC j μ μ' ∧ FrO c0 b ν ν' ∧ CI (rO c0 b ν') C O n ∧ OVD (rO c0 b ν') n dd := by
  unfold f_Shop_moveOwls
  refine it_fr2c (f1 := fun s : Int32 × Mem => s_Shop_moveOwls_2 j s.1 s.2) (f2 := fun s : Int32 × Mem => s_Own_passes_83 b s.1 s.2) (a := (0, μ)) (b := (0, ν))
    (fun i a b' => ∃ m v, a = (nI i, m) ∧ b' = (nI i, v) ∧ SH m j (rO c0 b v) E P C O n w t dd ∧ FrC j μ m ∧ FrO c0 b ν v ∧ CI (rO c0 b v) C O n ∧ OVD (rO c0 b v) n dd) (fun m v => SH m j (rO c0 b v) E P C O n w t dd ∧ FrC j μ m ∧ FrO c0 b ν v ∧ CI (rO c0 b v) C O n ∧ OVD (rO c0 b v) n dd) O 6 (by omega) ⟨μ, ν, rfl, rfl, H, FrC.rf, FrO.rf, hI, hV⟩ ?_ ?_ (fun r1 r2 e1 e2 e3 => ⟨r1, r2, by rw [e1]; rfl, e2, e3⟩)
  · rintro i hi _ _ ⟨m, v, rfl, rfl, H, F1, F2, hI, hV⟩
    have h9' : rO c0 b v 9 = nI O := (F2.1 9 (by unfold dynI; omega)).trans h9
    obtain ⟨m', v', e1, e2, H', F1', F2', hI', hV'⟩ := L_owl hC hO hn h9' hi H hI hV
    exact ⟨_, _, e1, e2, m', v', rfl, rfl, H', F1.tr F1', F2.tr F2', hI', hV'⟩
  · rintro _ _ ⟨m, v, rfl, rfl, H, F1, F2, hI, hV⟩
    have h9' : rO c0 b v 9 = nI O := (F2.1 9 (by unfold dynI; omega)).trans h9
    have hx : it (fun s : Int32 × Mem => s_Shop_moveOwls_2 j s.1 s.2) (5 - O + 1) (nI O, m) = some m := by
      obtain ⟨r, h1, rfl⟩ := it_forK (f := fun s : Int32 × Mem => s_Shop_moveOwls_2 j s.1 s.2) (fun i s => O ≤ i ∧ s = (nI i, m)) (fun r => r = m) 5 (fun i hi s hs => by
          obtain ⟨h8, rfl⟩ := hs
          refine ⟨(nI (i + 1), m), ?_, by omega, rfl⟩
          show s_Shop_moveOwls_2 j (nI i) m = _
          unfold s_Shop_moveOwls_2
          rw [if_neg (gl_5 (by omega)), chk_of (inb_of (by omega) (by omega)), nI_clamp (by omega), C_fly0 (H.2.2.1.2 i h8 hi).1, bind_s, if_pos rfl, nI_1]) (fun s hs => by
          obtain ⟨h8, rfl⟩ := hs
          refine ⟨m, ?_, rfl⟩
          show s_Shop_moveOwls_2 j (nI 5) m = _
          unfold s_Shop_moveOwls_2
          rw [if_pos (lg_5 (Nat.le_refl _) (by omega))]) (5 - O) O (nI O, m) (by omega) ⟨Nat.le_refl _, rfl⟩
      exact h1
    refine ⟨m, v, it_mono (by omega) hx, it_mono (show 1 ≤ 6 by omega) (it_r ?_), H, F1, F2, hI, hV⟩
    show s_Own_passes_83 b (nI O) v = _
    have o9 : v 60 b 9 = nI O := (ro_0 (c0 := c0) (by omega)).symm.trans h9'
    unfold s_Own_passes_83
    rw [o9, if_pos (nI_le (Nat.le_refl _) (by omega))]
end Days

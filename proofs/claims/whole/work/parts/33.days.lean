/-! A day passes, in the class and in the model. -/
section Days
variable {μ ν : Mem} {j s E P C O n w t dd : Nat}
theorem C_isOverdue {q : Nat} {d : Int32} {m : Mem} : f_Prophecy_isOverdue q d m = some (if m 5 q 7 = 0 then (if d ≤ m 5 q 5 then 0 else 1) else 0) := by
  unfold f_Prophecy_isOverdue
  split
  · split <;> rfl
  · rfl
theorem dyn_row {p f : Nat} (hp : p < 24) : dynI (80 + 10 * p + f) := by unfold dynI; omega
theorem L_over (hC : C ≤ 8) (hO : O ≤ 5) (H : SH μ j (ν 40 0) E P C O n w t dd) : ∃ μ' ν', f_Shop_decideOverdue j μ = some μ' ∧ it (fun s : Int32 × Mem => s_R_dayPasses_12 s.1 s.2) LIM (0, ν) = some ν' ∧ SH μ' j (ν' 40 0) E P C O n w t dd ∧ FrC j μ μ' ∧ FrN ν ν' := by
  have hn : n ≤ 24 := H.1.1
  unfold f_Shop_decideOverdue
  refine it_fr2 (f1 := fun s : Int32 × Mem => s_Shop_decideOverdue_2 j s.1 s.2) (f2 := fun s : Int32 × Mem => s_R_dayPasses_12 s.1 s.2) (a := (0, μ)) (b := (0, ν))
    (fun i a b => ∃ m v, a = (nI i, m) ∧ b = (nI i, v) ∧ SH m j (v 40 0) E P C O n w t dd ∧ FrC j μ m ∧ FrN ν v) (fun m v => SH m j (v 40 0) E P C O n w t dd ∧ FrC j μ m ∧ FrN ν v) n 0 (Nat.zero_le _) (by omega) ⟨μ, ν, rfl, rfl, H, FrC.rf, FrN.rf⟩ ?_ ?_ (fun r1 r2 e1 e2 e3 => ⟨r1, r2, by rw [e1]; rfl, e2, e3⟩)
  · rintro i hi _ _ ⟨m, v, rfl, rfl, H, F1, F2⟩
    left
    have hr := H.2.1 i hi
    have h1 := H.1
    obtain ⟨-, -, -, -, s1, a5, s2, s5, a10, -⟩ := H.1
    obtain ⟨k1, k2, kk, k4, ⟨d2, hd2, q5, b5⟩, k6, q7, k8, k9, k10⟩ := H.2.1 i hi
    replace q5 : m 5 (24 * j + i) 5 = nI d2 := q5
    replace q7 : m 5 (24 * j + i) 7 = v 40 0 (80 + 10 * i + 7) := q7
    show ∃ a' b', s_Shop_decideOverdue_2 j (nI i) m = some (.inl a') ∧ s_R_dayPasses_12 (nI i) v = some (.inl b') ∧ _
    unfold s_Shop_decideOverdue_2 s_R_dayPasses_12
    rw [s5, if_neg (nI_ge hi (by omega)), chk_of (inb_of (by omega) (by omega)), chk_of (inb_of (by omega) (by omega)), nI_clamp (by omega), C_isOverdue, bind_s, q7, q5, s1,
      ib_10_524, chk_t, tn_10, a10, if_neg (nI_ge hi (by omega)), R_of7 (by omega), bind_s, R_of5 (by omega), bind_s, ib_5_524, chk_t, tn_5, a5, b5, nI_1]
    by_cases c1 : v 40 0 (80 + 10 * i + 7) = 0
    · rw [if_pos c1, if_pos c1]
      by_cases c2 : nI dd ≤ nI d2
      · rw [if_pos c2, if_pos c2, if_pos rfl]
        exact ⟨_, _, rfl, rfl, m, v, rfl, rfl, H, F1, F2⟩
      · rw [if_neg c2, if_neg c2, if_neg (by decide), C_decide, bind_s, R_of3 (by omega), bind_s]
        have key : (if (0 : Int32) = (if m 5 (24 * j + i) 1 = 2 then 0 else 1) then (1 : Int32) else 2) = (if v 40 0 (80 + 10 * i + 3) = 1 then 1 else 2) := by
          rcases kk with ⟨g1, g2, g3, g4⟩ | ⟨g1, g2, g4⟩ | ⟨g1, g2, g4⟩
          · rw [show m 5 (24 * j + i) 1 = 1 from g1, g4]; rfl
          · rw [show m 5 (24 * j + i) 1 = 0 from g1, g4]; rfl
          · rw [show m 5 (24 * j + i) 1 = 2 from g1, g4]; rfl
        have e9 : ((if v 40 0 (80 + 10 * i + 3) = 1 then some (1 : Int32) else some 0).bind fun q6 => (f_R_decides (nI i) q6 v).bind fun r7 => some (Sum.inl (nI (i + 1), r7))) = (some (Sum.inl (nI (i + 1), st3 (st3 v 40 0 (80 + 10 * i + 7) (if v 40 0 (80 + 10 * i + 3) = 1 then 1 else 2)) 40 0 (80 + 10 * i + 8) (v 40 0 5))) : Option ((Int32 × Mem) ⊕ Mem)) := by
          split
          · rw [bind_s, R_decides (by omega), bind_s, if_neg (by decide)]
          · rw [bind_s, R_decides (by omega), bind_s, if_pos rfl]
        rw [e9, key, a5]
        generalize hv : (if v 40 0 (80 + 10 * i + 3) = 1 then (1 : Int32) else 2) = z
        have hz : z = 1 ∨ z = 2 := by subst hv; split; exact Or.inl rfl; exact Or.inr rfl
        refine ⟨_, _, rfl, rfl, _, _, rfl, rfl, ?_, (F1.st5 (by omega)).st5 (by omega), (F2.st (dyn_row (by omega))).st (dyn_row (by omega))⟩
        refine H.setP i hi hC hO (fun K hK => by rw [st3_K hK, st3_K hK]) (fun p hp => by rw [st3_J (by omega), st3_J (by omega)]) (fun k hk => by rw [st3_two, ua_N (by omega), ua_N (by omega)]) ?_
        rw [st3_two, st3_two]
        exact hr.dec hz
    · rw [if_neg c1, if_neg c1, if_pos rfl]
      exact ⟨_, _, rfl, rfl, m, v, rfl, rfl, H, F1, F2⟩
  · rintro _ _ ⟨m, v, rfl, rfl, H, F1, F2⟩
    obtain ⟨-, -, -, -, s1, a5, s2, s5, a10, -⟩ := H.1
    show ∃ r1 r2, s_Shop_decideOverdue_2 j (nI n) m = some (.inr r1) ∧ s_R_dayPasses_12 (nI n) v = some (.inr r2) ∧ _
    unfold s_Shop_decideOverdue_2 s_R_dayPasses_12
    rw [s5, if_pos (nI_le (Nat.le_refl _) (by omega)), ib_10_524, chk_t, tn_10, a10, if_pos (nI_le (Nat.le_refl _) (by omega))]
    exact ⟨m, v, rfl, rfl, H, F1, F2⟩
theorem dyn_owl {o f : Nat} (ho : o < 5) (h1 : 1 ≤ f) (h4 : f ≤ 4) : dynI (52 + 5 * o + f) := by unfold dynI; omega
theorem dyn_pur {c : Nat} (hc : c < 8) : dynI (28 + 3 * c + 1) := by unfold dynI; omega
theorem R_lands1 {o : Nat} {v : Mem} (ho : o < 5) (h : v 40 0 (52 + 5 * o + 3) = -1) : f_R_lands (nI o) v = some v := by
  unfold f_R_lands
  rw [R_ofOwl3 (by omega), bind_s, h, if_pos rfl]
theorem R_lands2 {o c : Nat} {v : Mem} (ho : o < 5) (hc : c < 8) (h : v 40 0 (52 + 5 * o + 3) = nI c) : f_R_lands (nI o) v = some (st3 (st3 (st3 (st3 v 40 0 (28 + 3 * c + 1) (v 40 0 (28 + 3 * c + 1) + v 40 0 (52 + 5 * o + 2))) 40 0 (52 + 5 * o + 2) 0) 40 0 (52 + 5 * o + 3) (-1)) 40 0 (52 + 5 * o + 1) (v 40 0 (52 + 5 * o + 4))) := by
  unfold f_R_lands
  have e : (28 : Int32) + 3 * nI c + 1 = nI (28 + 3 * c + 1) := by rw [show (28 : Int32) = nI 28 from rfl, show (3 : Int32) = nI 3 from rfl, show (1 : Int32) = nI 1 from rfl, pk_mul, nI_add, nI_add]
  rw [R_ofOwl3 (by omega), bind_s, h, if_neg (ne_m1 (by omega)), e, chk_of (inb_of (by omega) (by omega)), R_ofOwl2 (by omega), bind_s, chk_of (inb_of (by omega) (by omega)), nI_clamp (by omega), nm_9, R_putOwl2 (by omega), bind_s, R_putOwl3 (by omega), bind_s, R_ofOwl4 (by omega), bind_s, R_putOwl1 (by omega), bind_s]
  congr 2
  rw [st3_ua, ua_N (by omega), st3_ua, ua_N (by omega), st3_ua, ua_N (by omega)]
theorem C_fly0 {q : Nat} {m : Mem} (h : m 4 q 0 = 0) : f_Owl_fly q m = some (-1, m) := by
  unfold f_Owl_fly
  rw [if_pos h]
theorem C_fly1 {q d : Nat} {m : Mem} (h : m 4 q 0 = nI (d + 1)) (hd : d < 1000) : f_Owl_fly q m = some (if 0 < d ∨ m 4 q 4 = 0 then (-1, st3 m 4 q 0 (nI d)) else (m 4 q 2, st3 (st3 (st3 m 4 q 0 (nI d)) 4 q 4 0) 4 q 0 (m 4 q 3))) := by
  unfold f_Owl_fly
  rw [h, if_neg (by rw [eq_0 (by omega)]; omega), nI_pred]
  simp only [nm_9, st3_ua, ua_S]
  by_cases h1 : 0 < d
  · rw [if_pos (gg_0 h1 (by omega)), if_pos (Or.inl h1)]
  · rw [if_neg (ng_0 (by omega)), ua_N (by omega)]
    by_cases h2 : m 4 q 4 = 0
    · rw [if_pos h2, if_pos (Or.inr h2)]
    · rw [if_neg h2, if_neg (by rintro (z | z); exact h1 z; exact h2 z)]
      congr 2
theorem C_hand {q : Nat} {m : Mem} : f_Owl_handOver q m = some (m 4 q 1, st3 m 4 q 1 0) := rfl
/-- one owl, one day -/
theorem L_owl (hC : C ≤ 8) (hO : O ≤ 5) (h9 : ν 40 0 9 = nI O) {i : Nat} (hi : i < O) (H : SH μ j (ν 40 0) E P C O n w t dd) : ∃ m v, s_Shop_moveOwls_2 j (nI i) μ = some (.inl (nI (i + 1), m)) ∧ s_R_dayPasses_76 (nI i) ν = some (.inl (nI (i + 1), v)) ∧ SH m j (v 40 0) E P C O n w t dd ∧ FrC j μ m ∧ FrN ν v := by
  have hr := H.2.2.1.1 i hi
  obtain ⟨⟨d, hd, q0, b1⟩, q1, hc⟩ := H.2.2.1.1 i hi
  replace q0 : μ 4 (5 * j + i) 0 = nI d := q0
  replace q1 : μ 4 (5 * j + i) 1 = ν 40 0 (52 + 5 * i + 2) := q1
  unfold s_Shop_moveOwls_2 s_R_dayPasses_76
  rw [if_neg (gl_5 (by omega)), chk_of (inb_of (by omega) (by omega)), nI_clamp (by omega), ib_9_524, chk_t, tn_9, h9, if_neg (nI_ge hi (by omega)), R_ofOwl1 (by omega), bind_s, bind_s, b1, nI_1]
  cases d with
  | zero =>
    rw [C_fly0 q0, bind_s, if_pos rfl, if_pos nI_0]
    exact ⟨_, _, rfl, rfl, H, FrC.rf, FrN.rf⟩
  | succ d =>
    rw [C_fly1 q0 (by omega), bind_s, if_neg (ne_0 (show 0 < d + 1 by omega) (by omega)), nI_pred, R_putOwl1 (by omega), bind_s, R_ofOwl1 (by omega), bind_s, st3_ua, ua_S]
    -- the days alone
    have small : ∀ f, f ≠ 1 → ua (ν 40 0) (52 + 5 * i + 1) (nI d) (52 + 5 * i + f) = ν 40 0 (52 + 5 * i + f) := fun f hf => ua_N (by omega)
    have days : (μ 4 (5 * j + i) 4 = 0 ∨ 0 < d) → SH (st3 μ 4 (5 * j + i) 0 (nI d)) j (st3 ν 40 0 (52 + 5 * i + 1) (nI d) 40 0) E P C O n w t dd := by
      intro _
      refine H.setO i hi hC hO (fun K hK => by rw [st3_K hK]) (fun o ho => by rw [st3_J (by omega)]) (fun k hk => by rw [st3_ua, ua_N (by omega)]) ?_
      rw [st3_ua, st3_ua]
      have u : ∀ f, f ≠ 0 → ua (μ 4 (5 * j + i)) 0 (nI d) f = μ 4 (5 * j + i) f := fun f hf => ua_N hf
      refine ⟨⟨d, by omega, ua_S, ua_S⟩, ?_, ?_⟩
      · rw [u 1 (by omega), small 2 (by omega)]; exact q1
      · rw [u 4 (by omega), u 2 (by omega), u 3 (by omega), small 2 (by omega), small 3 (by omega), small 4 (by omega)]; exact hc
    have F1 : FrC j μ (st3 μ 4 (5 * j + i) 0 (nI d)) := FrC.rf.st4 (by omega)
    have F2 : FrN ν (st3 ν 40 0 (52 + 5 * i + 1) (nI d)) := FrN.rf.st (dyn_owl (by omega) (by omega) (by omega))
    by_cases h1 : 0 < d
    · rw [if_pos (Or.inl h1), if_pos rfl, if_neg (ne_0 h1 (by omega))]
      exact ⟨_, _, rfl, rfl, days (Or.inr h1), F1, F2⟩
    · obtain rfl : d = 0 := by omega
      rw [if_pos nI_0]
      rcases hc with ⟨q4, ⟨c, hcc, q2, b3⟩, d3, hd3, q3, b4⟩ | ⟨q4, b3, b2⟩
      · replace q4 : μ 4 (5 * j + i) 4 = 1 := q4
        replace q2 : μ 4 (5 * j + i) 2 = nI c := q2
        replace q3 : μ 4 (5 * j + i) 3 = nI d3 := q3
        have b3' : st3 ν 40 0 (52 + 5 * i + 1) (nI 0) 40 0 (52 + 5 * i + 3) = nI c := by rw [st3_ua, small 3 (by omega)]; exact b3
        rw [if_neg (show ¬ (0 < 0 ∨ μ 4 (5 * j + i) 4 = 0) by rw [q4]; decide), q2, q3, if_neg (ne_m1 (by omega)), chk_of (inb_of (by omega) (by omega)), C_hand, bind_s, R_lands2 (by omega) (by omega) b3', bind_s, C_addCoins (by omega), bind_s]
        refine ⟨_, _, rfl, rfl, ?_, ?_, ?_⟩
        · have e1 : (st3 (st3 (st3 (st3 μ 4 (5 * j + i) 0 (nI 0)) 4 (5 * j + i) 4 0) 4 (5 * j + i) 0 (nI d3)) 4 (5 * j + i) 1 0) 27 j c = μ 27 j c := by rw [st3_K (by omega), st3_K (by omega), st3_K (by omega), st3_K (by omega)]
          have e2 : (st3 (st3 (st3 μ 4 (5 * j + i) 0 (nI 0)) 4 (5 * j + i) 4 0) 4 (5 * j + i) 0 (nI d3)) 4 (5 * j + i) 1 = ν 40 0 (52 + 5 * i + 2) := by rw [st3_ua, ua_N (by omega), st3_ua, ua_N (by omega), st3_ua, ua_N (by omega)]; exact q1
          have e3 : μ 27 j c = ν 40 0 (28 + 3 * c + 1) := H.2.2.2.1.1 c hcc
          dsimp only
          rw [e1, e2, e3]
          have H1 := H.setC c (ν 40 0 (28 + 3 * c + 1) + ν 40 0 (52 + 5 * i + 2)) hcc hC hO
          refine H1.setO i hi hC hO (fun K hK => ?_) (fun o ho => ?_) (fun k hk => ?_) ?_
          · by_cases e : K = 27
            · subst e
              funext i'
              by_cases e9 : i' = j
              · subst e9; rw [st3_ua, st3_ua, st3_K hK, st3_K hK, st3_K hK, st3_K hK]
              · rw [st3_J e9, st3_J e9, st3_K hK, st3_K hK, st3_K hK, st3_K hK]
            · rw [st3_K e, st3_K e, st3_K hK, st3_K hK, st3_K hK, st3_K hK]
          · rw [st3_K (by omega), st3_J (by omega), st3_J (by omega), st3_J (by omega), st3_J (by omega), st3_K (by omega)]
          · rw [st3_ua, ua_N (by omega), st3_ua, ua_N (by omega), st3_ua, ua_N (by omega), st3_ua]
            by_cases ek : k = 28 + 3 * c + 1
            · subst ek; rw [ua_S, ua_S, st3_ua, ua_N (by omega), ua_N (by omega)]
            · rw [ua_N ek, ua_N ek, st3_ua, ua_N (by omega)]
          · have A : ∀ f, f ≠ 1 → f ≠ 2 → f ≠ 3 → f < 5 → (st3 (st3 (st3 (st3 (st3 ν 40 0 (52 + 5 * i + 1) (nI 0)) 40 0 (28 + 3 * c + 1) ((st3 ν 40 0 (52 + 5 * i + 1) (nI 0)) 40 0 (28 + 3 * c + 1) + (st3 ν 40 0 (52 + 5 * i + 1) (nI 0)) 40 0 (52 + 5 * i + 2))) 40 0 (52 + 5 * i + 2) 0) 40 0 (52 + 5 * i + 3) (-1)) 40 0 (52 + 5 * i + 1) ((st3 ν 40 0 (52 + 5 * i + 1) (nI 0)) 40 0 (52 + 5 * i + 4))) 40 0 (52 + 5 * i + f) = ν 40 0 (52 + 5 * i + f) := by
              intro f f1 f2 f3 f5
              rw [st3_ua, ua_N (by omega), st3_ua, ua_N (by omega), st3_ua, ua_N (by omega), st3_ua, ua_N (by omega), st3_ua, ua_N (by omega)]
            refine ⟨⟨d3, by omega, ?_, ?_⟩, ?_, Or.inr ⟨?_, ?_, ?_⟩⟩
            · rw [st3_K (by omega), st3_ua, ua_N (by omega), st3_ua, ua_S]
            · rw [st3_ua, ua_S, st3_ua, small 4 (by omega)]; exact b4
            · rw [st3_K (by omega), st3_ua, ua_S, st3_ua, ua_N (by omega), st3_ua, ua_N (by omega), st3_ua, ua_S]
            · rw [st3_K (by omega), st3_ua, ua_N (by omega), st3_ua, ua_N (by omega), st3_ua, ua_S]
            · rw [st3_ua, ua_N (by omega), st3_ua, ua_S]
            · rw [st3_ua, ua_N (by omega), st3_ua, ua_N (by omega), st3_ua, ua_S]
        · exact ((((F1.st4 (by omega)).st4 (by omega)).st4 (by omega)).stA (by omega))
        · exact ((((F2.st (dyn_pur (by omega))).st (dyn_owl (by omega) (by omega) (by omega))).st (dyn_owl (by omega) (by omega) (by omega))).st (dyn_owl (by omega) (by omega) (by omega)))
      · have b3' : st3 ν 40 0 (52 + 5 * i + 1) (nI 0) 40 0 (52 + 5 * i + 3) = -1 := by rw [st3_ua, small 3 (by omega)]; exact b3
        replace q4 : μ 4 (5 * j + i) 4 = 0 := q4
        rw [if_pos (Or.inr q4), if_pos rfl, R_lands1 (by omega) b3', bind_s]
        exact ⟨_, _, rfl, rfl, days (Or.inl q4), F1, F2⟩
/-- all owls -/
theorem L_owls (hC : C ≤ 8) (hO : O ≤ 5) (h9 : ν 40 0 9 = nI O) (H : SH μ j (ν 40 0) E P C O n w t dd) : ∃ μ' ν', f_Shop_moveOwls j μ = some μ' ∧ it (fun s : Int32 × Mem => s_R_dayPasses_76 s.1 s.2) LIM (0, ν) = some ν' ∧ SH μ' j (ν' 40 0) E P C O n w t dd ∧ FrC j μ μ' ∧ FrN ν ν' := by
  unfold f_Shop_moveOwls
  refine it_fr2c (f1 := fun s : Int32 × Mem => s_Shop_moveOwls_2 j s.1 s.2) (f2 := fun s : Int32 × Mem => s_R_dayPasses_76 s.1 s.2) (a := (0, μ)) (b := (0, ν))
    (fun i a b => ∃ m v, a = (nI i, m) ∧ b = (nI i, v) ∧ SH m j (v 40 0) E P C O n w t dd ∧ FrC j μ m ∧ FrN ν v) (fun m v => SH m j (v 40 0) E P C O n w t dd ∧ FrC j μ m ∧ FrN ν v) O 6 (by omega) ⟨μ, ν, rfl, rfl, H, FrC.rf, FrN.rf⟩ ?_ ?_ (fun r1 r2 e1 e2 e3 => ⟨r1, r2, by rw [e1]; rfl, e2, e3⟩)
  · rintro i hi _ _ ⟨m, v, rfl, rfl, H, F1, F2⟩
    have h9' : v 40 0 9 = nI O := (F2.2 9 (by unfold dynI; omega)).trans h9
    obtain ⟨m', v', e1, e2, H', F1', F2'⟩ := L_owl hC hO h9' hi H
    exact ⟨_, _, e1, e2, m', v', rfl, rfl, H', F1.tr F1', F2.tr F2'⟩
  · rintro _ _ ⟨m, v, rfl, rfl, H, F1, F2⟩
    have h9' : v 40 0 9 = nI O := (F2.2 9 (by unfold dynI; omega)).trans h9
    have hx : it (fun s : Int32 × Mem => s_Shop_moveOwls_2 j s.1 s.2) (5 - O + 1) (nI O, m) = some m := by
      obtain ⟨r, h1, rfl⟩ := it_forK (f := fun s : Int32 × Mem => s_Shop_moveOwls_2 j s.1 s.2) (fun i s => O ≤ i ∧ s = (nI i, m)) (fun r => r = m) 5 (fun i hi s hs => by
          obtain ⟨h8, rfl⟩ := hs
          refine ⟨(nI (i + 1), m), ?_, by omega, rfl⟩
          show s_Shop_moveOwls_2 j (nI i) m = _
          unfold s_Shop_moveOwls_2
          rw [if_neg (gl_5 (by omega)), chk_of (inb_of (by omega) (by omega)), nI_clamp (by omega), C_fly0 (H.2.2.1.2 i h8 hi).1, bind_s, if_pos rfl, nI_1]) (fun s hs => by
          obtain ⟨h8, rfl⟩ := hs
          refine ⟨m, ?_, rfl⟩
          show s_Shop_moveOwls_2 j (nI 5) m = _
          unfold s_Shop_moveOwls_2
          rw [if_pos (lg_5 (Nat.le_refl _) (by omega))]) (5 - O) O (nI O, m) (by omega) ⟨Nat.le_refl _, rfl⟩
      exact h1
    refine ⟨m, v, it_mono (by omega) hx, it_mono (show 1 ≤ 6 by omega) (it_r ?_), H, F1, F2⟩
    show s_R_dayPasses_76 (nI O) v = _
    unfold s_R_dayPasses_76
    rw [ib_9_524, chk_t, tn_9, h9', if_pos (nI_le (Nat.le_refl _) (by omega))]
end Days

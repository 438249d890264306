/-! runScript. -/
section Run
variable {μ ν m v : Mem} {s E P C O n w t dd h L : Nat} {π : Nat → Nat}
/-- the class's script is of no weight -/
theorem GRp.cls (H : GRp μ ν s E P C O n w t dd h π L) (hK : ∀ K, K ≠ 6 → K ≠ 10 → K ≠ 22 → m K = μ K) : GRp m ν s E P C O n w t dd h π L := by
  obtain ⟨a1, a2, a3, a4, a5, a6, a7, a8, a9, a10⟩ := H
  have q : ∀ K, K ≠ 6 ∧ K ≠ 10 ∧ K ≠ 22 → m K = μ K := fun K z => hK K z.1 z.2.1 z.2.2
  refine ⟨by rw [q 12 (by omega)]; exact a1, by rw [q 9 (by omega)]; exact a2, a3.mem (fun K z => q K (by unfold setK at z; omega)), ?_, a5, a6.fr (fun K z => q K (by unfold setK at z; omega)) (fun j K i _ _ z => by rw [q K (by unfold inS at z; omega)]) (by rw [q 2 (by omega)]) (by rw [q 34 (by omega)]) rfl rfl, a7.fr (fun K z => q K (by unfold setK at z; omega)) (fun j K i _ _ z => by rw [q K (by unfold inS at z; omega)]) (by rw [q 36 (by omega)]) rfl rfl, a8.fr (by rw [q 11 (by omega)]) (by rw [q 20 (by omega)]) rfl rfl, by rw [q 12 (by omega)]; exact a9, a10⟩
  unfold SH
  rw [q 9 (by omega), q 5 (by omega), q 4 (by omega), q 27 (by omega), q 30 (by omega), q 31 (by omega), q 32 (by omega), q 33 (by omega)]
  exact a4
/-- behind a reading: the text is gone, the code is told -/
theorem GRp.read (H : GRp μ ν s E P C O n w t dd h π L) (hK : ∀ K, K ≠ 6 → K ≠ 10 → K ≠ 22 → K ≠ 11 → K ≠ 12 → m K = μ K) (h12 : m 12 0 3 = μ 12 0 3 ∧ m 12 0 4 = μ 12 0 4) (hc : m 12 0 10 = v 13 0 10 ∧ m 12 0 11 = v 13 0 11) (h11 : m 11 0 1 = 0) (hN : ∀ K, K ≠ 13 → K ≠ 47 → K ≠ 48 → v K = ν K) (h6 : v 13 0 6 = ν 13 0 6) (h22 : v 13 0 22 = ν 13 0 22) (h9 : v 13 0 9 = 0) : GRp m v s E P C O n w t dd h π 0 := by
  obtain ⟨a1, a2, a3, a4, a5, a6, a7, a8, a9, a10⟩ := H
  have q : ∀ K, K ≠ 6 ∧ K ≠ 10 ∧ K ≠ 22 ∧ K ≠ 11 ∧ K ≠ 12 → m K = μ K := fun K z => hK K z.1 z.2.1 z.2.2.1 z.2.2.2.1 z.2.2.2.2
  have e40 := hN 40 (by omega) (by omega) (by omega)
  refine ⟨by rw [h12.1, h12.2]; exact a1, by rw [q 9 (by omega)]; exact a2, by rw [e40]; exact a3.mem (fun K z => q K (by unfold setK at z; omega)), ?_, a5, a6.fr (fun K z => q K (by unfold setK at z; omega)) (fun j K i _ _ z => by rw [q K (by unfold inS at z; omega)]) (by rw [q 2 (by omega)]) (by rw [q 34 (by omega)]) (by rw [hN 43 (by omega) (by omega) (by omega)]) h6, a7.fr (fun K z => q K (by unfold setK at z; omega)) (fun j K i _ _ z => by rw [q K (by unfold inS at z; omega)]) (by rw [q 36 (by omega)]) (by rw [hN 44 (by omega) (by omega) (by omega)]) (by rw [hN 45 (by omega) (by omega) (by omega)]), ⟨by omega, h11, h9, fun i hi => by omega⟩, hc, h22.trans a10⟩
  rw [e40]
  unfold SH
  rw [q 9 (by omega), q 5 (by omega), q 4 (by omega), q 27 (by omega), q 30 (by omega), q 31 (by omega), q 32 (by omega), q 33 (by omega)]
  exact a4
/-- the class's execution, from its end -/
theorem C_end {a Q z : Nat} {x : Mem} (hq : m 6 0 7 = nI Q) (hQ : Q ≤ 60) (hz : z < 1000000) : exS (exT a Q z m) = some (.inr (.inl (nI a, m))) := by
  show s_Script_execute_7 0 (nI a) (nI Q) (nI z) m = _
  unfold s_Script_execute_7
  rw [if_neg (show ¬ (1000000 : Int32) ≤ nI z from nI_ge (b := 1000000) hz (by omega)), if_pos (show m 6 0 7 ≤ nI Q by rw [hq]; exact nI_le (Nat.le_refl _) (by omega))]
theorem C_exec {T a : Nat} {q : XS} (hr : rch exS T (exT 0 0 0 μ) q) (hs : STP q a m) (hT : T ≤ 100000) : f_Script_execute 0 μ = some (nI a, m) := by
  unfold f_Script_execute
  rcases hs with hs | hs
  · have h1 := hr.it (m := 1) (it_r hs)
    rw [show it (fun (s : Int32 × Int32 × Int32 × Mem) => s_Script_execute_7 0 s.1 s.2.1 s.2.2.1 s.2.2.2) LIM (0, 0, 0, μ) = some (.inl (nI a, m)) from it_mono (show T + 1 ≤ 3000000 by omega) h1, bind_s, els_l]
  · have h1 := hr.it (m := 1) (it_r hs)
    rw [show it (fun (s : Int32 × Int32 × Int32 × Mem) => s_Script_execute_7 0 s.1 s.2.1 s.2.2.1 s.2.2.2) LIM (0, 0, 0, μ) = some (.inr (nI a, m)) from it_mono (show T + 1 ≤ 3000000 by omega) h1, bind_s, els_r]
theorem T_runScript (hG : GR μ ν) : Ch0 μ ν (f_P_runScript μ) (f_R_runScript ν) := by
  obtain ⟨s, E, P, C, O, n, w, t, dd, h, π, L, H⟩ := hG
  have H0 := H.th (f := 7) (x := 0) (Or.inl rfl)
  have hT0 := H0.2.2.1
  have hs : s < 2 := hT0.1
  have e12 := H.1
  obtain ⟨B, hX⟩ := (H0.2.2.2.2.2.2.2.1 : TXT μ (st3 ν 13 0 7 0) L).tx
  obtain ⟨m, v1, v2, v3, x, y, c1, c2, c3, c4, c5, c6, c7, c8⟩ := P_script hX hT0
  have e16 := c6.er
  have e17 : m 6 0 5 = v3 13 0 17 := by obtain ⟨b, e, -, -, -, -, -, q⟩ := c6; exact q
  -- behind the reading
  generalize hm5 : st3 (st3 (st3 m 12 0 10 (m 6 0 4)) 12 0 11 (m 6 0 5)) 11 0 1 0 = m5
  generalize hv5 : st3 (st3 (st3 v3 13 0 9 0) 13 0 10 (m 6 0 4)) 13 0 11 (m 6 0 5) = v5
  have k5 : ∀ K, K ≠ 6 → K ≠ 10 → K ≠ 22 → K ≠ 11 → K ≠ 12 → m5 K = μ K := fun K k1 k2 k3 k4 k6 => by rw [← hm5, st3_K k4, st3_K k6, st3_K k6, c7.1 K k1 k2 k3]
  have k12 : ∀ f, f ≠ 10 → f ≠ 11 → m5 12 0 f = μ 12 0 f := fun f f1 f2 => by rw [← hm5, st3_K (by omega), st3_ua, ua_N f2, st3_ua, ua_N f1, c7.1 12 (by omega) (by omega) (by omega)]
  have kS : ∀ K, K ≠ 11 → K ≠ 12 → m5 K = m K := fun K k4 k6 => by rw [← hm5, st3_K k4, st3_K k6, st3_K k6]
  have w5 : ∀ K, K ≠ 13 → v5 K = v3 K := fun K k1 => by rw [← hv5, st3_K k1, st3_K k1, st3_K k1]
  have w13 : ∀ f, f ≠ 9 → f ≠ 10 → f ≠ 11 → v5 13 0 f = v3 13 0 f := fun f f1 f2 f3 => by rw [← hv5, st3_ua, ua_N f3, st3_ua, ua_N f2, st3_ua, ua_N f1]
  have H5 : GRp m5 v5 s E P C O n w t dd h π 0 := H0.read k5 ⟨k12 3 (by omega) (by omega), k12 4 (by omega) (by omega)⟩ ⟨by rw [← hm5, ← hv5, st3_K (by omega), st3_ua, ua_N (by omega), st3_ua, ua_S, st3_ua, ua_N (by omega), st3_ua, ua_S], by rw [← hm5, ← hv5, st3_K (by omega), st3_ua, ua_S, st3_ua, ua_S]⟩ (by rw [← hm5, st3_ua, ua_S]) (fun K k1 k2 k3 => (w5 K k1).trans (c7.2.2.2.1 K k1 k2 k3)) ((w13 6 (by omega) (by omega) (by omega)).trans (c7.2.2.2.2.1 6 (by omega))) ((w13 22 (by omega) (by omega) (by omega)).trans (c7.2.2.2.2.1 22 (by omega))) (by rw [← hv5, st3_ua, ua_N (by omega), st3_ua, ua_N (by omega), st3_ua, ua_S])
  have eC : f_P_runScript μ = if m 6 0 4 = 0 then (((f_History_record 0 m5)).bind (fun r6 => ((f_Script_execute 0 r6)).bind (fun r7 => some ((r7.1, r7.2))))) else (some (((-1), m5))) := by
    unfold f_P_runScript f_Text_shortenTo
    rw [e12.1, nI_clamp (by omega), chk_of (decide_eq_true hs), c1, bind_s]
    dsimp only
    rw [nm_9, nm_9, st3_K (show 6 ≠ 12 by omega), nm_9, bind_s, hm5]
  have eW : f_R_isWhole v3 = if m 6 0 4 = 0 then some (1, v5) else some (0, v5) := by
    unfold f_R_isWhole
    have z1 : (st3 v3 13 0 9 0) 13 0 16 = m 6 0 4 := by rw [st3_ua, ua_N (by omega), e16]
    have z2 : (st3 (st3 v3 13 0 9 0) 13 0 10 (m 6 0 4)) 13 0 17 = m 6 0 5 := by rw [st3_ua, ua_N (by omega), st3_ua, ua_N (by omega), e17]
    have z3 : v5 13 0 16 = m 6 0 4 := by rw [w13 16 (by omega) (by omega) (by omega), e16]
    rw [nm_9, z1, nm_9, z2, nm_9, hv5, z3]
  have eR : f_R_runScript ν = (if m 6 0 4 = 0 then some ((1 : Int32), v5) else some (0, v5)).bind (fun r7 => if r7.1 = 0 then (some (((-1), r7.2))) else (((f_R_keeps r7.2)).bind (fun r8 => nm (st3 r8 13 0 22 1) (fun μ9 => nm (st3 μ9 13 0 21 0) (fun μ10 => ((f_R_das 4 0 (μ10 13 0 20) μ10)).bind (fun r11 => nm (st3 r11.2 13 0 22 0) (fun μ12 => nm (st3 μ12 13 0 7 0) (fun μ13 => some ((μ13 13 0 21, μ13)))))))))) := by
    unfold f_R_runScript
    rw [nm_9, c2, bind_s, nm_9, c3, bind_s, c4, bind_s, c5, bind_s, snd_, eW]
  have o49 : v5 49 = ν 49 := by rw [w5 49 (by omega), c7.2.2.2.1 49 (by omega) (by omega) (by omega), st3_K (by omega)]
  have o28 : v5 13 0 28 = ν 13 0 28 := by rw [w13 28 (by omega) (by omega) (by omega), c7.2.2.2.2.1 28 (by omega), st3_ua, ua_N (by omega)]
  by_cases er : m 6 0 4 = 0
  · rw [if_pos er] at eC eR
    rw [bind_s, if_neg n1_] at eR
    obtain ⟨N, c, p, g1, g2, g3, g4, g5⟩ := c8 er
    obtain ⟨μ1, ν1, h', π', r1, r2, r3, r4, r5, r6⟩ := L_record H5.2.2.2.2.2.1 H5.2.1 H5.2.2.1 H5.2.2.2.2.1 H5.2.2.2.1
    have f1 : ∀ K i, K ≠ 34 → K ≠ 2 → (∀ j, j < 10 → ¬ inS j K i) → μ1 K i = m5 K i := fun K i a b c => r4 K i a b (fun j _ hj => c j hj)
    generalize hν0 : st3 (st3 ν1 13 0 22 1) 13 0 21 0 = ν0
    have n0K : ∀ K, K ≠ 13 → ν0 K = ν1 K := fun K k => by rw [← hν0, st3_K k, st3_K k]
    have n013 : ∀ f, f ≠ 21 → f ≠ 22 → ν0 13 0 f = ν1 13 0 f := fun f a b => by rw [← hν0, st3_ua, ua_N a, st3_ua, ua_N b]
    have hT1 : ST μ1 s (ν1 40 0) E P C O := by rw [r5 40 (by omega) (by omega)]; exact H5.2.2.1.mem (fun K q => r4.set q)
    have hS1 : SH μ1 0 (ν1 40 0) E P C O n w t dd := by
      rw [r5 40 (by omega) (by omega)]
      exact H5.2.2.2.1.cong ⟨r4.shop (Or.inl (by omega)) (Or.inl ⟨Or.inl rfl, rfl⟩), fun p hp => r4.shop (j := 0) (Or.inl (by omega)) (Or.inr (Or.inl ⟨rfl, by omega⟩)), fun o ho => r4.shop (j := 0) (Or.inl (by omega)) (Or.inr (Or.inr ⟨rfl, by omega⟩)), r4.shop (Or.inl (by omega)) (Or.inl ⟨Or.inr (by omega), rfl⟩), r4.shop (Or.inl (by omega)) (Or.inl ⟨Or.inr (by omega), rfl⟩), r4.shop (Or.inl (by omega)) (Or.inl ⟨Or.inr (by omega), rfl⟩), r4.shop (Or.inl (by omega)) (Or.inl ⟨Or.inr (by omega), rfl⟩), r4.shop (Or.inl (by omega)) (Or.inl ⟨Or.inr (by omega), rfl⟩)⟩ (fun _ _ => rfl) H5.2.2.1.2.2.2.1 H5.2.2.1.2.2.2.2.1
    have h90 : μ1 9 0 0 = nI s := by rw [r4.shop (j := 0) (Or.inl (by omega)) (Or.inl ⟨Or.inl rfl, rfl⟩)]; exact H5.2.1
    have hF : EXF s E P C O μ1 ν0 := ⟨by rw [n0K 40 (by omega)]; exact hT1, by rw [← hν0, st3_ua, ua_N (by omega), st3_ua, ua_S]⟩
    have hX1 : EXR s E P C O μ1 ν0 μ1 ν0 0 := ⟨⟨n, w, t, dd, H5.2.2.2.2.1, by rw [n0K 40 (by omega)]; exact hS1⟩, fun _ _ _ _ => rfl, h90, fun _ _ _ => rfl, fun _ _ _ => rfl, fun _ _ => rfl, fun _ _ _ _ => rfl, by rw [← hν0, st3_ua, ua_S]; rfl, by omega⟩
    have e6 : μ1 6 0 7 = nI p := by rw [f1 6 0 (by omega) (by omega) (fun j _ q => by unfold inS at q; omega), kS 6 (by omega) (by omega)]; exact g2
    have e20 : ν0 13 0 20 = nI c := by rw [n013 20 (by omega) (by omega), r6 20 (by omega), w13 20 (by omega) (by omega) (by omega)]; exact g3
    have hB : BLK μ1 ν0 N 2 0 c 0 p := g1.cong (fun j f _ _ _ => by rw [f1 10 j (by omega) (by omega) (fun j' _ q => by unfold inS at q; omega), kS 10 (by omega) (by omega)]) (fun z _ _ => by rw [n0K 47 (by omega), r5 47 (by omega) (by omega), w5 47 (by omega)]) (fun z _ _ => by rw [n0K 48 (by omega), r5 48 (by omega) (by omega), w5 48 (by omega)])
    obtain ⟨r, l1, l2⟩ := levels hF e6 g5 2 N 0 c 0 p hB g4 (Nat.le_refl p) 0 0 μ1 ν0 hX1 (by have : (21 : Nat) ^ 2 = 441 := rfl; omega)
    have l3 := l1.all (by omega)
    have fin : ∀ {b : Int32} {a' : Nat} {mf vf : Mem}, f_Script_execute 0 μ1 = some (nI a', mf) → f_R_das 4 0 (nI c) ν0 = some (b, vf) → EXR s E P C O μ1 ν0 mf vf a' → Ch0 μ ν (f_P_runScript μ) (f_R_runScript ν) := fun {b a' mf vf} q1 q2 q3 => by
      obtain ⟨⟨n', w', t', dd', x1, x2⟩, x3, x4, x5, x6, x7, x8, x9, x10⟩ := q3
      have gt : GRp (fun K => if K = 10 then μ1 10 else mf K) (fun K => if K = 13 then ν1 13 else vf K) s E P C O n' w' t' dd' h' π' 0 := by
        refine H5.op r3 r4 r5 r6 ?_ x1 ⟨fun K i q => ?_, ?_⟩ ⟨fun K k1 => ?_, fun k hk => ?_⟩
        · unfold SH
          exact x2
        · by_cases e : K = 10
          · subst e; rfl
          · show (if K = 10 then μ1 10 else mf K) i = _
            rw [if_neg e]; exact x3 K i q e
        · exact x4.trans h90.symm
        · by_cases e : K = 13
          · subst e; rfl
          · show (if K = 13 then ν1 13 else vf K) = _
            rw [if_neg e, x6 K e k1]; exact n0K K e
        · show vf 40 0 k = _
          rw [x7 k hk, n0K 40 (by omega)]
      have g2 : GRp mf (st3 (st3 vf 13 0 22 0) 13 0 7 0) s E P C O n' w' t' dd' h' π' 0 := by
        refine (gt.cls (m := mf) (fun K k1 k2 k3 => (if_neg k2).symm)).mdl (fun K k1 _ _ _ _ _ _ => by rw [st3_K k1, st3_K k1]; exact (if_neg k1).symm) ⟨?_, ?_, ?_, ?_, ?_⟩
        · show _ = ν1 13 0 6
          rw [st3_ua, ua_N (by omega), st3_ua, ua_N (by omega), x8 6 (by omega) (by omega) (by omega), n013 6 (by omega) (by omega)]
        · show _ = ν1 13 0 9
          rw [st3_ua, ua_N (by omega), st3_ua, ua_N (by omega), x8 9 (by omega) (by omega) (by omega), n013 9 (by omega) (by omega)]
        · show _ = ν1 13 0 10
          rw [st3_ua, ua_N (by omega), st3_ua, ua_N (by omega), x8 10 (by omega) (by omega) (by omega), n013 10 (by omega) (by omega)]
        · show _ = ν1 13 0 11
          rw [st3_ua, ua_N (by omega), st3_ua, ua_N (by omega), x8 11 (by omega) (by omega) (by omega), n013 11 (by omega) (by omega)]
        · show _ = ν1 13 0 22
          rw [st3_ua, ua_N (by omega), st3_ua, ua_S, r6 22 (by omega)]
          exact H5.2.2.2.2.2.2.2.2.2.symm
      refine ⟨nI a', mf, _, ?_, ?_, g2.gr, ?_, ?_, ?_⟩
      · rw [eC, r1, bind_s, q1, bind_s]
      · rw [eR, snd_, r2, bind_s, nm_9, nm_9, hν0, e20, q2, bind_s, nm_9, nm_9]
        have e : (st3 (st3 vf 13 0 22 0) 13 0 7 0) 13 0 21 = nI a' := by rw [st3_ua, ua_N (by omega), st3_ua, ua_N (by omega)]; exact x9
        exact congrArg (fun z => some (z, st3 (st3 vf 13 0 22 0) 13 0 7 0)) e
      · rw [x3 12 0 (by unfold inS; omega) (by omega), f1 12 0 (by omega) (by omega) (fun j _ q => by unfold inS at q; omega)]
        exact k12 12 (by omega) (by omega)
      · rw [st3_K (by omega), st3_K (by omega), x6 49 (by omega) (by omega), n0K 49 (by omega), r5 49 (by omega) (by omega), o49]
      · rw [st3_ua, ua_N (by omega), st3_ua, ua_N (by omega), x8 28 (by omega) (by omega) (by omega), n013 28 (by omega) (by omega), r6 28 (by omega), o28]
    have h441 : (21 : Nat) ^ 2 = 441 := rfl
    rcases l2 with ⟨v, T, mf, a', k1, k2, k3, k4, -⟩ | ⟨v, T, q, a', mf, k2, k3, k4, k5, k6⟩
    · subst k1
      rw [els_l] at l3
      exact fin (C_exec k2 (Or.inl (C_end (x := mf) (k4.q e6) g5 (by omega))) (by omega)) l3 k4
    · rcases k6 with rfl | ⟨rfl, -⟩
      · rw [els_r] at l3
        exact fin (C_exec k2 k3 (by omega)) l3 k5
      · rw [els_l] at l3
        exact fin (C_exec k2 k3 (by omega)) l3 k5
  · rw [if_neg er] at eC eR
    rw [bind_s] at eR
    exact ⟨-1, m5, v5, eC, by rw [eR]; exact if_pos rfl, H5.gr, k12 12 (by omega) (by omega), o49, o28⟩
end Run

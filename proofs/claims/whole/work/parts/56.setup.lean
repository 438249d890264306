/-! The setup is read: owls, the end; the shop is opened. -/
section LoadO
variable {s : Nat} {μ ν : Mem} {B : Nat → Nat} {L E P C O : Nat}
theorem I_owl {i : Nat} (hi : i ≤ 5) (hR : RS0 8 μ ν B L) (hS : SAN s μ ν) (z : μ 8 0 4 = 0) (hT : ST μ s (ν 40 0) E P C i) (hF : FSH s μ ν C i) (hw : f_Reader_sees 8 6 μ = some 1) (hw' : f_R_isWord 31 ν = some 1) :
    ∃ m v, s_SetupReader_readOwls_2 s (nI i) μ = some (.inl (nI (i + 1), m)) ∧ f_R_readsOwl ν = some v ∧ RS0 8 m v B L ∧ SAN s m v ∧ FLd s μ m ν v ∧ (m 8 0 4 = 0 → i < 5 ∧ ST m s (v 40 0) E P C (i + 1) ∧ FSH s m v C (i + 1)) := by
  have z' : ν 13 0 16 = 0 := by rw [← hR.er]; exact z
  have hcnt : μ 7 s 11 = nI i ∧ ν 40 0 9 = nI i := by
    obtain ⟨t1, t2, t3, t4, t5, t6, t7, t8, t9, -⟩ := hT
    exact t9
  obtain ⟨r4, m1, v1, c1, c2, c3, c4, c5⟩ := P_counted (w := 6) (w' := 31) (i := i) (lim := 5) (ix := 9) rfl (by decide) hi (by omega) hR z hw hcnt.2
  obtain ⟨x4, y4, m4, v4, a4, b4, p4, d4⟩ := P_number (lo := 1) (hi := 9) n8 (by omega) (by omega) c4.1
  obtain ⟨m5, v5, e1, e2, e3⟩ := P_takeSign (c := 59) n8 (Or.inl rfl) p4.1
  have F5 : FRD 8 μ m5 ν v5 := (c4.2.1.tr p4.2.1).tr e3.2.1
  have k7 : m5 7 s 11 = nI i := by rw [F5.1 7 (by omega)]; exact hcnt.1
  have v40 : v5 40 = ν 40 := F5.2.2.1 40 (by omega)
  have z4 : m5 8 0 4 = 0 → m4 8 0 4 = 0 := e3.2.2
  have z1 : m5 8 0 4 = 0 → m1 8 0 4 = 0 := fun w => p4.2.2 (z4 w)
  have eC0 : ∀ r7, f_Setup_addOwl s x4 m5 = some r7 → s_SetupReader_readOwls_2 s (nI i) μ = some (.inl (nI (i + 1), r7)) := fun r7 hr => by
    unfold s_SetupReader_readOwls_2
    rw [if_neg (ng_5 hi), hw, bind_s, if_neg (by decide), show f_Reader_takeCounted 8 6 (nI i) 5 μ = some m1 from c1, bind_s, show f_Reader_takeNumber 8 1 9 m1 = some (x4, m4) from a4, bind_s, show f_Reader_takeSign 8 59 m4 = some m5 from e1, bind_s, fst_, hr, bind_s, nI_1]
  have eM : f_R_readsOwl ν = if v5 13 0 16 = 0 then some (st3 (st3 (st3 v5 40 0 (52 + 5 * i + 0) y4) 40 0 (52 + 5 * i + 3) (-1)) 40 0 9 (nI (i + 1))) else some v5 := by
    unfold f_R_readsOwl
    rw [hw', bind_s, must_ok z', bind_s, snd_, ib_9_524, chk_t, tn_9, bind_if, show f_R_must (if (5 : Int32) ≤ ν 40 0 9 then 0 else 1) 4 ν = some r4 from c2, bind_s, c3, bind_s, show f_R_number 1 9 v1 = some (y4, v4) from b4, bind_s, show f_R_takesSign 59 v4 = some v5 from e2, bind_s, v40, hcnt.2, fst_]
    split
    · rename_i w
      have hi5 : i < 5 := c5 (z1 (by rw [e3.1.er]; exact w))
      have u9 : st3 v5 40 0 (52 + 5 * i + 0) y4 40 0 9 = nI i := by rw [st3_ua, ua_N (by omega), v40]; exact hcnt.2
      have u9' : st3 (st3 v5 40 0 (52 + 5 * i + 0) y4) 40 0 (52 + 5 * i + 3) (-1) 40 0 9 = nI i := by rw [st3_ua, ua_N (by omega)]; exact u9
      rw [chk_t, R_putOwl0 (by omega), bind_s, chk_t, u9, R_putOwl3 (by omega), bind_s, chk_t, chk_t, u9', nI_1, nm_9]
    · rfl
  obtain ⟨u1, u2, u3, u4, u5, u6, u7, u8⟩ := hS
  have m3j : m5 3 = μ 3 := F5.1 3 (by omega)
  by_cases hi5 : i < 5
  · generalize hmm : st3 (st3 m5 26 s i x4) 7 s 11 (nI (i + 1)) = m
    have hadd : f_Setup_addOwl s x4 m5 = some m := by
      unfold f_Setup_addOwl
      rw [k7, if_neg (gl_5 hi5), chk_of (inb_of hi5 (by omega)), nI_clamp (by omega), nm_9, st3_K (show 7 ≠ 26 by omega), k7, nI_1, nm_9, hmm]
    have mK : ∀ K, K ≠ 7 → K ≠ 26 → m K = m5 K := fun K q1 q2 => by rw [← hmm, st3_K q1, st3_K q2]
    have hRm : RS0 8 m v5 B L := e3.1.cong (mK 8 (by omega) (by omega)) (mK 11 (by omega) (by omega)) (mK 20 (by omega) (by omega)) rfl rfl
    have mm7 : m 7 s = ua (μ 7 s) 11 (nI (i + 1)) := by rw [← hmm, st3_ua, st3_K (by omega), F5.1 7 (by omega)]
    have mm26 : m 26 s = ua (μ 26 s) i x4 := by rw [← hmm, st3_K (by omega), st3_ua, F5.1 26 (by omega)]
    have mm : ∀ K, K ≠ 7 → K ≠ 26 → K ≠ 8 → m K = μ K := fun K q1 q2 q3 => by rw [mK K q1 q2, F5.1 K q3]
    have hFL : FLd s μ m ν v5 := by
      rw [← hmm]
      exact (F5.fld.c (Or.inr (Or.inr ⟨by omega, rfl⟩))).c (Or.inr (Or.inr ⟨by omega, rfl⟩))
    by_cases w : m5 8 0 4 = 0
    · rw [if_pos (by rw [← e3.1.er]; exact w)] at eM
      obtain ⟨d, hd1, hd2, q3, q4⟩ := d4 (z4 w)
      have v40' : (st3 (st3 (st3 v5 40 0 (52 + 5 * i + 0) y4) 40 0 (52 + 5 * i + 3) (-1)) 40 0 9 (nI (i + 1))) 40 0 = ua (ua (ua (ν 40 0) (52 + 5 * i + 0) y4) (52 + 5 * i + 3) (-1)) 9 (nI (i + 1)) := by rw [st3_ua, st3_ua, st3_ua, v40]
      have A : ∀ k, k ≠ 9 → k ≠ 52 + 5 * i + 0 → k ≠ 52 + 5 * i + 3 → (ua (ua (ua (ν 40 0) (52 + 5 * i + 0) y4) (52 + 5 * i + 3) (-1)) 9 (nI (i + 1))) k = ν 40 0 k := fun k k1 k2 k3 => by rw [ua_N k1, ua_N k3, ua_N k2]
      have hT' := ST_add_owl (m := m) (d := d) hT hi5 ⟨hd1, hd2⟩ (mm 3 (by omega) (by omega) (by omega)) (mm 23 (by omega) (by omega) (by omega)) mm7 (by rw [mm26, q3]) ⟨by rw [mm 24 (by omega) (by omega) (by omega)], by rw [mm 25 (by omega) (by omega) (by omega)]⟩
      refine ⟨m, _, eC0 m hadd, eM, hRm.cong rfl rfl rfl (by rw [st3_K (by omega), st3_K (by omega), st3_K (by omega)]) (by rw [st3_K (by omega), st3_K (by omega), st3_K (by omega)]), ?_, ((hFL.m).m).m, fun _ => ⟨hi5, ?_, ?_⟩⟩
      · unfold SAN
        rw [v40', A 6 (by omega) (by omega) (by omega), A 7 (by omega) (by omega) (by omega), A 8 (by omega) (by omega) (by omega), mm 3 (by omega) (by omega) (by omega), mm7]
        exact ⟨u1, u2, u3, ⟨i + 1, by omega, ua_S⟩, u5, u6, u7, ⟨i + 1, by omega, ua_S⟩⟩
      · rw [v40', q4]; exact hT'
      · obtain ⟨f1, f2, f3, f4, f5⟩ := hF
        have hC8 : C ≤ 8 := hT.2.2.2.1
        unfold FSH
        rw [v40', A 5 (by omega) (by omega) (by omega), A 10 (by omega) (by omega) (by omega), A 11 (by omega) (by omega) (by omega), A 12 (by omega) (by omega) (by omega), A 13 (by omega) (by omega) (by omega), A 14 (by omega) (by omega) (by omega), A 0 (by omega) (by omega) (by omega), mm7, mm 24 (by omega) (by omega) (by omega), ua_N (show 0 ≠ 11 by omega)]
        refine ⟨f1, f2, fun c hc => by rw [A _ (by omega) (by omega) (by omega)]; exact f3 c hc, fun o ho => by rw [A _ (by omega) (by omega) (by omega), A _ (by omega) (by omega) (by omega)]; exact f4 o ho, fun o ho => ?_⟩
        by_cases e : o = i
        · subst e
          rw [ua_N (by omega), ua_S]
        · rw [A _ (by omega) (by omega) (by omega)]
          exact f5 o (by omega)
    · rw [if_neg (by rw [← e3.1.er]; exact w)] at eM
      refine ⟨m, v5, eC0 m hadd, eM, hRm, ?_, hFL, fun q => absurd q (by rw [mK 8 (by omega) (by omega)]; exact w)⟩
      unfold SAN
      rw [v40, mm 3 (by omega) (by omega) (by omega), mm7]
      exact ⟨u1, u2, u3, ⟨i + 1, by omega, ua_S⟩, u5, u6, u7, u8⟩
  · have hadd : f_Setup_addOwl s x4 m5 = some m5 := by
      unfold f_Setup_addOwl
      rw [k7, if_pos (lg_5 (by omega) (by omega))]
    have w : ¬ m5 8 0 4 = 0 := fun w => hi5 (c5 (z1 w))
    rw [if_neg (by rw [← e3.1.er]; exact w)] at eM
    refine ⟨m5, v5, eC0 m5 hadd, eM, e3.1, ?_, F5.fld, fun q => absurd q w⟩
    unfold SAN
    rw [v40, F5.1 7 (by omega), m3j]
    exact ⟨u1, u2, u3, u4, u5, u6, u7, u8⟩
theorem num_er {a b : Int32} (h : ν 13 0 16 ≠ 0) : f_R_number a b ν = some (ν 13 0 15, ν) := by
  unfold f_R_number
  rw [bind_if, must_er h, bind_s, if_pos rfl, bind_s, nm_9, snd_, goes_er h, bind_s]
theorem er_owl (h : ν 13 0 16 ≠ 0) (hS : SAN s μ ν) : f_R_readsOwl ν = some ν := by
  unfold f_R_readsOwl
  rw [word_er h, bind_s, must_er h, bind_s, snd_, ib_9_524, chk_t, tn_9, bind_if, must_er h, bind_s, snd_, goes_er h, bind_s, num_er h, bind_s, snd_, sign_er h, bind_s, if_neg h]
/-- owls, and the end of the text -/
theorem L_owlsEnd (h : LD s μ ν B L E P C 0) : ∃ m m2 v, f_SetupReader_readOwls s μ = some m ∧ (if m 8 0 1 = 0 then some m else f_Reader_fail 8 1 m) = some m2 ∧ it (fun (s : Mem) => s_R_readsSetup_158 s) LIM ν = some v ∧ FLd s μ m2 ν v ∧ ∃ i', LD s m2 v B L E P C i' := by
  obtain ⟨hR, hS, hT⟩ := h
  have lp : ∀ (k i : Nat) (m v : Mem), i + k = 6 → RS0 8 m v B L → SAN s m v → FLd s μ m ν v → (m 8 0 4 = 0 → i ≤ 5 ∧ ST m s (v 40 0) E P C i ∧ FSH s m v C i) → ∃ m' m2 v', it (fun (q : Int32 × Mem) => s_SetupReader_readOwls_2 s q.1 q.2) (k + 2) (nI i, m) = some m' ∧ (if m' 8 0 1 = 0 then some m' else f_Reader_fail 8 1 m') = some m2 ∧ it (fun (q : Mem) => s_R_readsSetup_158 q) (k + 2) v = some v' ∧ FLd s μ m2 ν v' ∧ ∃ i', LD s m2 v' B L E P C i' := by
    intro k
    induction k with
    | zero =>
      intro i m v hik hR hS hF hx
      have ze : ¬ m 8 0 4 = 0 := fun q => by have := (hx q).1; omega
      refine ⟨m, m, v, it_mono (show 0 + 1 ≤ 0 + 2 by omega) (it_r ?_), ?_, it_mono (show 0 + 1 ≤ 0 + 2 by omega) (it_r ?_), hF, i, hR, hS, fun q => absurd q ze⟩
      · show s_SetupReader_readOwls_2 s (nI i) m = _
        unfold s_SetupReader_readOwls_2
        rw [if_pos (gg_5 (by omega) (by omega))]
      · rw [fail_er ze]; split <;> rfl
      · show s_R_readsSetup_158 v = _
        unfold s_R_readsSetup_158
        rw [if_neg (by rw [← hR.er]; exact ze)]
    | succ k ih =>
      intro i m v hik hR hS hF hx
      obtain ⟨r, s1, s2, s3⟩ := P_sees (w := 6) (w' := 31) rfl (by decide) hR
      have hend := P_end hR
      have he := hR.er
      by_cases ze : m 8 0 4 = 0
      · have z' : v 13 0 16 = 0 := by rw [← he]; exact ze
        obtain ⟨hi5, hT, hF2⟩ := hx ze
        by_cases en : m 8 0 1 = 0
        · have r0 : r = 0 := by
            rcases s3 with q | ⟨-, -, q⟩
            · exact q
            · rw [en] at q; exact absurd q (by decide)
          subst r0
          refine ⟨m, m, v, it_mono (show 0 + 1 ≤ k + 1 + 2 by omega) (it_r ?_), by rw [if_pos en], it_mono (show 0 + 1 ≤ k + 1 + 2 by omega) (it_r ?_), hF, i, hR, hS, fun q => (hx q).2⟩
          · show s_SetupReader_readOwls_2 s (nI i) m = _
            unfold s_SetupReader_readOwls_2
            rw [if_neg (ng_5 (by omega)), s1, bind_s, if_pos rfl]
          · show s_R_readsSetup_158 v = _
            unfold s_R_readsSetup_158
            rw [if_pos z', if_pos (hend.mp en)]
        · rcases s3 with rfl | ⟨rfl, z, -⟩
          · obtain ⟨m2, v2, f1, f2, f3, f4⟩ := P_fail (c := 1) n8 (by decide) hR
            have v16 : v2 13 0 16 ≠ 0 := by rw [← f3.1.er]; exact f4
            have hS2 : SAN s m2 v2 := hS.cong (f3.2.1.1 3 (by omega)) (by rw [f3.2.1.1 7 (by omega)]) (fun k _ _ => by rw [f3.2.1.2.2.1 40 (by omega)])
            refine ⟨m, m2, v2, it_mono (show 0 + 1 ≤ k + 1 + 2 by omega) (it_r ?_), by rw [if_neg en, f1], it_l (s' := v2) ?_ (it_mono (show 0 + 1 ≤ k + 2 by omega) (it_r ?_)), hF.tr f3.2.1.fld, i, f3.1, hS2, fun q => absurd q f4⟩
            · show s_SetupReader_readOwls_2 s (nI i) m = _
              unfold s_SetupReader_readOwls_2
              rw [if_neg (ng_5 (by omega)), s1, bind_s, if_pos rfl]
            · show s_R_readsSetup_158 v = _
              unfold s_R_readsSetup_158
              rw [if_pos z', if_neg (fun q => en (hend.mpr q))]
              have e0 := er_owl v16 hS2
              unfold f_R_readsOwl at e0 ⊢
              rw [word_er v16, bind_s, must_er v16, bind_s, snd_] at e0
              rw [s2, bind_s, f2, bind_s, snd_, e0, bind_s]
            · show s_R_readsSetup_158 v2 = _
              unfold s_R_readsSetup_158
              rw [if_neg v16]
          · obtain ⟨m', v', i1, i2, i3, i4, i5, i6⟩ := I_owl hi5 hR hS z hT hF2 s1 s2
            obtain ⟨m2, m3, v2, j1, j2, j3, j4⟩ := ih (i + 1) m' v' (by omega) i3 i4 (hF.tr i5) (fun q => ⟨by have := (i6 q).1; omega, (i6 q).2⟩)
            refine ⟨m2, m3, v2, it_l i1 j1, j2, it_l ?_ j3, j4⟩
            show s_R_readsSetup_158 v = _
            unfold s_R_readsSetup_158
            rw [if_pos z', if_neg (fun q => en (hend.mpr q)), i2, bind_s]
      · refine ⟨m, m, v, it_mono (show 0 + 1 ≤ k + 1 + 2 by omega) (it_r ?_), ?_, it_mono (show 0 + 1 ≤ k + 1 + 2 by omega) (it_r ?_), hF, i, hR, hS, fun q => absurd q ze⟩
        · show s_SetupReader_readOwls_2 s (nI i) m = _
          unfold s_SetupReader_readOwls_2
          by_cases c : i ≤ 5
          · rw [if_neg (ng_5 c), sees_er ze, bind_s, if_pos rfl]
          · rw [if_pos (gg_5 (by omega) (by omega))]
        · rw [fail_er ze]; split <;> rfl
        · show s_R_readsSetup_158 v = _
          unfold s_R_readsSetup_158
          rw [if_neg (by rw [← he]; exact ze)]
  obtain ⟨m', m2, v', j1, j2, j3, j4⟩ := lp 6 0 μ ν rfl hR hS FLd.rf (fun q => ⟨by omega, hT q⟩)
  refine ⟨m', m2, v', ?_, j2, it_mono (show 6 + 2 ≤ 3000000 by omega) j3, j4⟩
  unfold f_SetupReader_readOwls
  rw [show it (fun (q : Int32 × Mem) => s_SetupReader_readOwls_2 s q.1 q.2) LIM (0, μ) = some m' from it_mono (show 6 + 2 ≤ 3000000 by omega) j1, bind_s]
/-- the whole setup -/
theorem L_setup (hs : s < 2) (hX : TX μ ν B L) (hz : ∀ k, k < 524 → ν 40 0 k = 0) : ∃ m v1 v E P C O, f_SetupReader_readInto s μ = some (m 8 0 4, m) ∧ f_R_starts ν = some v1 ∧ f_R_readsSetup v1 = some v ∧ LD s m v B L E P C O ∧ FLd s μ m ν v := by
  generalize hm0 : st3 (st3 (st3 (st3 μ 3 (3 * s) 1 0) 3 (3 * s + 1) 1 0) 3 (3 * s + 2) 1 0) 7 s 11 0 = m0
  have F0 : FLd s μ m0 ν ν := by
    rw [← hm0]
    exact (((FLd.rf.c (Or.inl ⟨rfl, by omega⟩)).c (Or.inl ⟨rfl, by omega⟩)).c (Or.inl ⟨rfl, by omega⟩)).c (Or.inr (Or.inr ⟨by omega, rfl⟩))
  have hX0 : TX m0 ν B L := by
    unfold TX
    rw [← hm0, st3_K (show 11 ≠ 7 by omega), st3_K (show 11 ≠ 3 by omega), st3_K (show 11 ≠ 3 by omega), st3_K (show 11 ≠ 3 by omega), st3_K (show 20 ≠ 7 by omega), st3_K (show 20 ≠ 3 by omega), st3_K (show 20 ≠ 3 by omega), st3_K (show 20 ≠ 3 by omega)]
    exact hX
  obtain ⟨m1, v1, b1, b2, b3, b4, b5⟩ := P_begin n8 hX0
  have g3 : ∀ j, m1 3 j = m0 3 j := fun j => by rw [b4.1 3 (by omega)]
  obtain ⟨m2, v2, h1, h2, h3, h4⟩ := L_shop hs b3 ⟨by rw [g3, ← hm0, st3_K (by omega), st3_J (by omega), st3_J (by omega), st3_ua, ua_S], by rw [g3, ← hm0, st3_K (by omega), st3_J (by omega), st3_ua, ua_S], by rw [g3, ← hm0, st3_K (by omega), st3_ua, ua_S], by rw [b4.1 7 (by omega), ← hm0, st3_ua, ua_S]⟩ (fun k hk => by rw [b4.2.2.1 40 (by omega)]; exact hz k hk)
  obtain ⟨m3, v3, v4, i1, i2, i3, i4, E, i5⟩ := L_events h3
  obtain ⟨m4, v5, v6, j1, j2, j3, j4, P, j5⟩ := L_places i5
  obtain ⟨m5, v7, k1, k2, k3, C, k4⟩ := L_customers j5
  obtain ⟨m6, m7, v8, l1, l2, l3, l4, O, l5⟩ := L_owlsEnd k4
  refine ⟨m7, v1, v8, E, P, C, O, ?_, b2, ?_, l5, ((((((F0.tr b4.fld).tr h4).tr i4).tr j4).tr k3).tr l4)⟩
  · unfold f_SetupReader_readInto f_Setup_clear
    rw [nm_9, nm_9, nm_9, nm_9, hm0, bind_s, b1, bind_s, h1, bind_s, i1, bind_s, j1, bind_s, k1, bind_s, l1, bind_s]
    unfold f_Reader_seesEnd
    by_cases en : m6 8 0 1 = 0
    · rw [if_pos en] at l2
      cases l2
      rw [if_pos en, bind_s, if_neg (by decide)]
    · rw [if_neg en] at l2
      rw [if_neg en, bind_s, if_pos rfl, l2, bind_s]
  · unfold f_R_readsSetup
    rw [h2, i2, bind_s, i3, bind_s, j2, bind_s, j3, bind_s, k2, bind_s, l3, bind_s]
end LoadO

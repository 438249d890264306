/-! The setup is read: events and places. -/
section LoadN
variable {s : Nat} {μ ν : Mem} {B : Nat → Nat} {L E P C O : Nat}
/-- counted words -/
theorem P_counted {w w' i lim : Nat} {ix : Nat} (hw : sTx w = sTx w') (hl : (sTx w).length ≤ 20) (hi : i ≤ lim) (hlim : lim < 100) (h : RS0 8 μ ν B L) (z : μ 8 0 4 = 0) (hs : f_Reader_sees 8 w μ = some 1) (h6 : ν 40 0 ix = nI i) :
    ∃ r m v, f_Reader_takeCounted 8 w (nI i) (nI lim) μ = some m ∧ f_R_must (if nI lim ≤ ν 40 0 ix then 0 else 1) 4 ν = some r ∧ f_R_goesOn r.2 = some v ∧ PO 8 μ ν m v B L ∧ (m 8 0 4 = 0 → i < lim) := by
  have he := h.er
  have z' : ν 13 0 16 = 0 := by rw [← he]; exact z
  unfold f_Reader_takeCounted
  rw [hs, bind_s, if_neg (by decide), h6]
  by_cases c : i < lim
  · obtain ⟨m, v, g1, g2, g3, -⟩ := P_go n8 h
    rw [if_pos (nI_lt c (by omega)), g1, bind_s, if_neg (nI_ge c (by omega)), must_ok z']
    exact ⟨_, m, v, rfl, rfl, by rw [snd_, goes_ok z', g2], g3, fun _ => c⟩
  · obtain ⟨m, v, f1, f2, f3, f4⟩ := P_fail (c := 4) n8 (by decide) h
    rw [if_neg (nI_nlt (by omega) (by omega)), f1, bind_s, if_pos (nI_le (by omega) (by omega)), f2]
    exact ⟨_, m, v, rfl, rfl, by rw [snd_, goes_er (by rw [← f3.1.er]; exact f4)], f3, fun q => absurd q f4⟩
theorem ST_add_event {m : Mem} {a : Nat → Int32} {i : Nat} {x y : Int32} (h : ST μ s a i P C O) (hi : i < 6) (hN : NM x y) (h3 : m 3 (3 * s) 1 = nI (i + 1)) (h3' : m 3 (3 * s + 1) = μ 3 (3 * s + 1) ∧ m 3 (3 * s + 2) = μ 3 (3 * s + 2)) (h23 : m 23 (3 * s) = ua (μ 23 (3 * s)) i x) (h23' : m 23 (3 * s + 1) = μ 23 (3 * s + 1) ∧ m 23 (3 * s + 2) = μ 23 (3 * s + 2)) (hK : m 7 s = μ 7 s ∧ m 24 s = μ 24 s ∧ m 25 s = μ 25 s ∧ m 26 s = μ 26 s) : ST m s (ua (ua a (16 + i) y) 6 (nI (i + 1))) (i + 1) P C O := by
  obtain ⟨t1, t2, t3, t4, t5, t6, t7, t8, t9, t10, t11, t12, t13, t14, t15, t16, t17, t18⟩ := h
  obtain ⟨k7, k24, k25, k26⟩ := hK
  have A : ∀ k, k ≠ 6 → k ≠ 16 + i → (ua (ua a (16 + i) y) 6 (nI (i + 1))) k = a k := fun k k1 k2 => by rw [ua_N k1, ua_N k2]
  refine ⟨t1, by omega, t3, t4, t5, ⟨h3, ua_S⟩, ⟨by rw [h3'.1]; exact t7.1, by rw [A _ (by omega) (by omega)]; exact t7.2⟩, ⟨by rw [h3'.2]; exact t8.1, by rw [A _ (by omega) (by omega)]; exact t8.2⟩, ⟨by rw [k7]; exact t9.1, by rw [A _ (by omega) (by omega)]; exact t9.2⟩, by rw [k7, A _ (by omega) (by omega)]; exact t10, by rw [k7, A _ (by omega) (by omega)]; exact t11, by rw [k7, A _ (by omega) (by omega)]; exact t12, by rw [k7, A _ (by omega) (by omega)]; exact t13, fun e he => ?_, fun e he => by rw [h23'.1, A _ (by omega) (by omega)]; exact t15 e he, fun e he => by rw [h23'.2, k25, A _ (by omega) (by omega), A _ (by omega) (by omega)]; exact t16 e he, fun e he => by rw [k26, A _ (by omega) (by omega)]; exact t17 e he, by rw [k7, k24, A _ (by omega) (by omega)]; exact t18⟩
  rw [h23, ua_N (show 16 + e ≠ 6 by omega)]
  by_cases c : e = i
  · subst c; rw [ua_S, ua_S]; exact hN
  · rw [ua_N c, ua_N (by omega)]; exact t14 e (by omega)
theorem I_event {i : Nat} (hi : i ≤ 6) (hR : RS0 8 μ ν B L) (hS : SAN s μ ν) (z : μ 8 0 4 = 0) (hT : ST μ s (ν 40 0) i P C O) (hF : FSH s μ ν C O) (hw : f_Reader_sees 8 3 μ = some 1) (hw' : f_R_isWord 28 ν = some 1) :
    ∃ m v, s_SetupReader_readNames_15 3 (3 * s) (nI i) μ = some (.inl (nI (i + 1), m)) ∧ f_R_readsEvent ν = some v ∧ RS0 8 m v B L ∧ SAN s m v ∧ FLd s μ m ν v ∧ (m 8 0 4 = 0 → i < 6 ∧ ST m s (v 40 0) (i + 1) P C O ∧ FSH s m v C O) := by
  have z' : ν 13 0 16 = 0 := by rw [← hR.er]; exact z
  have hcnt : μ 3 (3 * s) 1 = nI i ∧ ν 40 0 6 = nI i := by
    obtain ⟨t1, t2, t3, t4, t5, t6, t7, t8, t9, -⟩ := hT
    exact t6
  have hNs : ∀ e, e < i → NM (μ 23 (3 * s) e) (ν 40 0 (16 + e)) := by
    obtain ⟨t1, t2, t3, t4, t5, t6, t7, t8, t9, t10, t11, t12, t13, t14, t15, -⟩ := hT
    exact t14
  obtain ⟨r4, m1, v1, c1, c2, c3, c4, c5⟩ := P_counted (w := 3) (w' := 28) (i := i) (lim := 6) (ix := 6) rfl (by decide) hi (by omega) hR z hw hcnt.2
  have hg : ∀ y v, (∀ K', K' ≠ 13 → v K' = v1 K') → f_R_eventNamed y v = some (fdI (fun k => decide (v1 40 0 (16 + 1 * k) = y)) 0 i) := fun y v hv => by
    unfold f_R_eventNamed
    rw [ib_6_524, chk_t, tn_6, hv 40 (by omega), c4.2.1.2.2.1 40 (by omega), hcnt.2, show (16 : Int32) = nI 16 from rfl, show (1 : Int32) = nI 1 from rfl, R_named (by omega) (by omega) (by omega), bind_s, hv 40 (by omega), c4.2.1.2.2.1 40 (by omega)]
  obtain ⟨x, y, m2, v2a, v2, q, n1, n2, n3, n4, n5, n6⟩ := P_new (j := (3 * s)) (b0 := 16) (st := 1) (cnt := i) (m0 := i) (g := f_R_eventNamed) n8 c4.1 (by rw [c4.2.1.1 3 (by omega)]; exact hcnt.1) (by omega) hg (fun _ => ⟨rfl, fun k hk => by rw [c4.2.1.1 23 (by omega), c4.2.1.2.2.1 40 (by omega), Nat.one_mul]; exact hNs k hk⟩)
  have h3m : m2 3 (3 * s) 1 = nI i := by rw [n5.2.1.1 3 (by omega), c4.2.1.1 3 (by omega)]; exact hcnt.1
  have hR3 : RS0 8 (st3 (st3 m2 23 (3 * s) i x) 3 (3 * s) 1 (nI (i + 1))) v2 B L := n5.1.cong (by rw [st3_K (by omega), st3_K (by omega)]) (by rw [st3_K (by omega), st3_K (by omega)]) (by rw [st3_K (by omega), st3_K (by omega)]) rfl rfl
  obtain ⟨m, v3, e1, e2, e3⟩ := P_takeSign (c := 59) n8 (Or.inl rfl) hR3
  have z32 : m 8 0 4 = 0 → m2 8 0 4 = 0 := fun w => by have := e3.2.2 w; rwa [st3_K (by omega), st3_K (by omega)] at this
  have mK : ∀ K, K ≠ 8 → K ≠ 3 → K ≠ 23 → m K = μ K := fun K k1 k2 k3 => by rw [e3.2.1.1 K k1, st3_K k2, st3_K k3, n5.2.1.1 K k1, c4.2.1.1 K k1]
  have m3j : ∀ j', j' ≠ (3 * s) → m 3 j' = μ 3 j' := fun j' w => by rw [e3.2.1.1 3 (by omega), st3_J w, st3_K (by omega), n5.2.1.1 3 (by omega), c4.2.1.1 3 (by omega)]
  have m23j : ∀ j', j' ≠ (3 * s) → m 23 j' = μ 23 j' := fun j' w => by rw [e3.2.1.1 23 (by omega), st3_K (by omega), st3_J w, n5.2.1.1 23 (by omega), c4.2.1.1 23 (by omega)]
  have m3 : m 3 (3 * s) 1 = nI (i + 1) := by rw [e3.2.1.1 3 (by omega), st3_ua, ua_S]
  have m23 : m 23 (3 * s) = ua (μ 23 (3 * s)) i x := by rw [e3.2.1.1 23 (by omega), st3_K (by omega), st3_ua, n5.2.1.1 23 (by omega), c4.2.1.1 23 (by omega)]
  have v40 : v3 40 = ν 40 := by rw [e3.2.1.2.2.1 40 (by omega), n5.2.1.2.2.1 40 (by omega), c4.2.1.2.2.1 40 (by omega)]
  have hb : ∀ F : Mem → Option Mem, (if q = -1 then some 1 else some 0 : Option Int32).bind (fun z => (f_R_passesName z v2a).bind F) = F v2 := fun F => by
    have e9 := congrArg (fun t => Option.bind t F) n4
    rw [bind_if]
    rw [bind_if] at n4
    rw [n4, bind_s]
  have eC : s_SetupReader_readNames_15 3 (3 * s) (nI i) μ = some (.inl (nI (i + 1), m)) := by
    unfold s_SetupReader_readNames_15
    rw [if_neg (ng_6 hi), hw, bind_s, if_neg (by decide), show f_Reader_takeCounted 8 3 (nI i) 6 μ = some m1 from c1, bind_s, n1, bind_s]
    unfold f_Names_add
    rw [snd_, fst_, h3m, if_neg (gl_8 (by omega)), chk_of (inb_of (by omega) (by omega)), nI_clamp (by omega), nm_9, st3_K (by omega), h3m, nI_1, nm_9, bind_s, show f_Reader_takeSign 8 59 (st3 (st3 m2 23 (3 * s) i x) 3 (3 * s) 1 (nI (i + 1))) = some m from e1, bind_s]
  have eM : f_R_readsEvent ν = if v3 13 0 16 = 0 then some (st3 (st3 v3 40 0 (16 + i) y) 40 0 6 (nI (i + 1))) else some v3 := by
    unfold f_R_readsEvent
    rw [hw', bind_s, must_ok z', bind_s, snd_, ib_6_524, chk_t, tn_6, bind_if, show f_R_must (if (6 : Int32) ≤ ν 40 0 6 then 0 else 1) 4 ν = some r4 from c2, bind_s, c3, bind_s, n2, bind_s, n3, bind_s, hb, show f_R_takesSign 59 v2 = some v3 from e2, bind_s, v40, hcnt.2, show (16 : Int32) + nI i = nI (16 + i) from nI_add 16 i, chk_of (inb_of (by omega) (by omega)), nI_clamp (by omega), nm_9, chk_t, chk_t, st3_ua, ua_N (by omega), v40, hcnt.2, nI_1, nm_9, chk_t, fst_]
  by_cases w : m 8 0 4 = 0
  · have hi6 : i < 6 := c5 (n5.2.2 (z32 w))
    rw [if_pos (by rw [← e3.1.er]; exact w)] at eM
    have v40' : (st3 (st3 v3 40 0 (16 + i) y) 40 0 6 (nI (i + 1))) 40 0 = ua (ua (ν 40 0) (16 + i) y) 6 (nI (i + 1)) := by rw [st3_ua, st3_ua, v40]
    have hT' : ST m s (ua (ua (ν 40 0) (16 + i) y) 6 (nI (i + 1))) (i + 1) P C O := ST_add_event hT hi6 (n6 (z32 w)) m3 ⟨m3j _ (by omega), m3j _ (by omega)⟩ m23 ⟨m23j _ (by omega), m23j _ (by omega)⟩ ⟨by rw [mK 7 (by omega) (by omega) (by omega)], by rw [mK 24 (by omega) (by omega) (by omega)], by rw [mK 25 (by omega) (by omega) (by omega)], by rw [mK 26 (by omega) (by omega) (by omega)]⟩
    refine ⟨m, _, eC, eM, e3.1.cong rfl rfl rfl (by rw [st3_K (by omega), st3_K (by omega)]) (by rw [st3_K (by omega), st3_K (by omega)]), ?_, ?_, fun _ => ⟨hi6, by rw [v40']; exact hT', ?_⟩⟩
    · obtain ⟨u1, u2, u3, u4, u5, u6, u7, u8⟩ := hS
      unfold SAN
      rw [v40']
      refine ⟨⟨i + 1, by omega, m3⟩, by rw [m3j _ (by omega)]; exact u2, by rw [m3j _ (by omega)]; exact u3, by rw [mK 7 (by omega) (by omega) (by omega)]; exact u4, ⟨i + 1, by omega, ua_S⟩, by rw [ua_N (by omega), ua_N (by omega)]; exact u6, by rw [ua_N (by omega), ua_N (by omega)]; exact u7, by rw [ua_N (by omega), ua_N (by omega)]; exact u8⟩
    · exact (((((c4.2.1.fld.tr n5.2.1.fld).tr ((FLd.rf.c (Or.inr (Or.inl ⟨rfl, by omega⟩))).c (Or.inl ⟨rfl, by omega⟩))).tr e3.2.1.fld)).m).m
    · obtain ⟨f1, f2, f3, f4, f5⟩ := hF
      have hC8 : C ≤ 8 := hT.2.2.2.1
      have hO5 : O ≤ 5 := hT.2.2.2.2.1
      unfold FSH
      rw [v40']
      have A : ∀ k, k ≠ 6 → k ≠ 16 + i → (ua (ua (ν 40 0) (16 + i) y) 6 (nI (i + 1))) k = ν 40 0 k := fun k k1 k2 => by rw [ua_N k1, ua_N k2]
      rw [A 5 (by omega) (by omega), A 10 (by omega) (by omega), A 11 (by omega) (by omega), A 12 (by omega) (by omega), A 13 (by omega) (by omega), A 14 (by omega) (by omega), A 0 (by omega) (by omega), mK 7 (by omega) (by omega) (by omega), mK 24 (by omega) (by omega) (by omega)]
      exact ⟨f1, f2, fun c hc => by rw [A _ (by omega) (by omega)]; exact f3 c hc, fun o ho => by rw [A _ (by omega) (by omega), A _ (by omega) (by omega)]; exact f4 o ho, fun o ho => by rw [A _ (by omega) (by omega)]; exact f5 o ho⟩
  · rw [if_neg (by rw [← e3.1.er]; exact w)] at eM
    refine ⟨m, v3, eC, eM, e3.1, ?_, ((((c4.2.1.fld.tr n5.2.1.fld).tr ((FLd.rf.c (Or.inr (Or.inl ⟨rfl, by omega⟩))).c (Or.inl ⟨rfl, by omega⟩))).tr e3.2.1.fld)), fun q => absurd q w⟩
    obtain ⟨u1, u2, u3, u4, u5, u6, u7, u8⟩ := hS
    unfold SAN
    rw [v40]
    exact ⟨⟨i + 1, by omega, m3⟩, by rw [m3j _ (by omega)]; exact u2, by rw [m3j _ (by omega)]; exact u3, by rw [mK 7 (by omega) (by omega) (by omega)]; exact u4, u5, u6, u7, u8⟩
theorem er_event (h : ν 13 0 16 ≠ 0) (hS : SAN s μ ν) : f_R_readsEvent ν = some ν := by
  obtain ⟨-, -, -, -, ⟨n6, u6, h6⟩, ⟨n7, u7, h7⟩, -⟩ := hS
  unfold f_R_readsEvent
  rw [word_er h, bind_s, must_er h, bind_s, snd_, ib_6_524, chk_t, tn_6, bind_if, must_er h, bind_s, snd_, goes_er h, bind_s, looks_er h, bind_s]
  have : f_R_eventNamed 0 ν = some (fdI (fun k => decide (ν 40 0 (16 + 1 * k) = 0)) 0 n6) := by
    unfold f_R_eventNamed
    rw [ib_6_524, chk_t, tn_6, h6, show (16 : Int32) = nI 16 from rfl, show (1 : Int32) = nI 1 from rfl, R_named (by omega) (by omega) (by omega), bind_s]
  rw [this, bind_s, bind_if, snd_, pass_er h, bind_s, sign_er h, bind_s, if_neg h]
theorem L_events (h : LD s μ ν B L 0 P C O) : ∃ m v1 v, f_SetupReader_readNames 3 (3 * s) μ = some m ∧ f_R_readsEvent ν = some v1 ∧ it (fun (s : Mem) => s_R_readsSetup_106 s) LIM v1 = some v ∧ FLd s μ m ν v ∧ ∃ i', LD s m v B L i' P C O := by
  obtain ⟨hR, hS, hT⟩ := h
  obtain ⟨r, s1, s2, s3⟩ := P_sees (w := 3) (w' := 28) rfl (by decide) hR
  have he := hR.er
  unfold f_SetupReader_readNames
  rw [s1, bind_s]
  -- what the loops do from the second word on
  have lp : ∀ (k i : Nat) (m v : Mem), i + k = 7 → 1 ≤ i → RS0 8 m v B L → SAN s m v → FLd s μ m ν v → (m 8 0 4 = 0 → i ≤ 6 ∧ ST m s (v 40 0) i P C O ∧ FSH s m v C O) → ∃ m' v', it (fun (q : Int32 × Mem) => s_SetupReader_readNames_15 3 (3 * s) q.1 q.2) (k + 1) (nI i, m) = some m' ∧ it (fun (q : Mem) => s_R_readsSetup_106 q) (k + 1) v = some v' ∧ FLd s μ m' ν v' ∧ ∃ i', LD s m' v' B L i' P C O := by
    intro k
    induction k with
    | zero =>
      intro i m v hik hi1 hR hS hF hx
      have ze : ¬ m 8 0 4 = 0 := fun q => by have := (hx q).1; omega
      refine ⟨m, v, it_r ?_, it_r ?_, hF, i, hR, hS, fun q => absurd q ze⟩
      · show s_SetupReader_readNames_15 3 (3 * s) (nI i) m = _
        unfold s_SetupReader_readNames_15
        rw [if_pos (gg_6 (by omega) (by omega))]
      · show s_R_readsSetup_106 v = _
        unfold s_R_readsSetup_106
        rw [word_er (by rw [← hR.er]; exact ze), bind_s, if_pos rfl]
    | succ k ih =>
      intro i m v hik hi1 hR hS hF hx
      obtain ⟨r, s1, s2, s3⟩ := P_sees (w := 3) (w' := 28) rfl (by decide) hR
      rcases s3 with rfl | ⟨rfl, z, -⟩
      · refine ⟨m, v, it_mono (show 0 + 1 ≤ k + 1 + 1 by omega) (it_r ?_), it_mono (show 0 + 1 ≤ k + 1 + 1 by omega) (it_r ?_), hF, i, hR, hS, fun q => (hx q).2⟩
        · show s_SetupReader_readNames_15 3 (3 * s) (nI i) m = _
          unfold s_SetupReader_readNames_15
          rw [if_neg (ng_6 (by omega)), s1, bind_s, if_pos rfl]
        · show s_R_readsSetup_106 v = _
          unfold s_R_readsSetup_106
          rw [s2, bind_s, if_pos rfl]
      · obtain ⟨hi6, hT, hF2⟩ := hx z
        obtain ⟨m', v', i1, i2, i3, i4, i5, i6⟩ := I_event hi6 hR hS z hT hF2 s1 s2
        obtain ⟨m2, v2, j1, j2, j3, j4⟩ := ih (i + 1) m' v' (by omega) (by omega) i3 i4 (hF.tr i5) (fun q => ⟨by have := (i6 q).1; omega, (i6 q).2⟩)
        refine ⟨m2, v2, it_l i1 j1, it_l ?_ j2, j3, j4⟩
        show s_R_readsSetup_106 v = _
        unfold s_R_readsSetup_106
        rw [s2, bind_s, if_neg (by decide), i2, bind_s]
  rcases s3 with rfl | ⟨rfl, z, -⟩
  · obtain ⟨m, v, f1, f2, f3, f4⟩ := P_fail (c := 1) n8 (by decide) hR
    have v16 : v 13 0 16 ≠ 0 := by rw [← f3.1.er]; exact f4
    have hS1 : SAN s m v := hS.cong (f3.2.1.1 3 (by omega)) (by rw [f3.2.1.1 7 (by omega)]) (fun k _ _ => by rw [f3.2.1.2.2.1 40 (by omega)])
    obtain ⟨u1, u2, u3, u4, ⟨n6, g6, h6⟩, ⟨n7, g7, h7⟩, u7, u8⟩ := hS
    refine ⟨m, v, v, ?_, ?_, ?_, f3.2.1.fld, 0, f3.1, hS1, fun q => absurd q f4⟩
    · rw [if_pos rfl, f1, bind_s, bind_s]
      have : it (fun (q : Int32 × Mem) => s_SetupReader_readNames_15 3 (3 * s) q.1 q.2) LIM (0, m) = some m := by
        refine it_mono (show 0 + 1 ≤ 3000000 by omega) (it_r ?_)
        show s_SetupReader_readNames_15 3 (3 * s) 0 m = _
        unfold s_SetupReader_readNames_15
        rw [if_neg (by decide), sees_er f4, bind_s, if_pos rfl]
      rw [this, bind_s]
    · have e0 := er_event v16 hS1
      unfold f_R_readsEvent at e0 ⊢
      rw [s2, bind_s, f2, bind_s, snd_]
      rw [word_er v16, bind_s, must_er v16, bind_s, snd_] at e0
      exact e0
    · refine it_mono (show 0 + 1 ≤ 3000000 by omega) (it_r ?_)
      show s_R_readsSetup_106 v = _
      unfold s_R_readsSetup_106
      rw [word_er v16, bind_s, if_pos rfl]
  · obtain ⟨hT1, hF1⟩ := hT z
    obtain ⟨m1, v1, i1, i2, i3, i4, i5, i6⟩ := I_event (i := 0) (by omega) hR hS z hT1 hF1 s1 s2
    obtain ⟨m', v', j1, j2, j3, j4⟩ := lp 6 1 m1 v1 rfl (Nat.le_refl _) i3 i4 i5 (fun q => ⟨by have := (i6 q).1; omega, (i6 q).2⟩)
    have hc : it (fun (q : Int32 × Mem) => s_SetupReader_readNames_15 3 (3 * s) q.1 q.2) LIM (0, μ) = some m' := it_mono (show 6 + 1 + 1 ≤ 3000000 by omega) (it_l i1 j1)
    have hm : it (fun (q : Mem) => s_R_readsSetup_106 q) LIM v1 = some v' := it_mono (show 6 + 1 ≤ 3000000 by omega) j2
    exact ⟨m', v1, v', by rw [if_neg (by decide), bind_s, hc, bind_s], i2, hm, j3, j4⟩
theorem ST_add_place {m : Mem} {a : Nat → Int32} {i : Nat} {x y : Int32} (h : ST μ s a E i C O) (hi : i < 6) (hN : NM x y) (h3 : m 3 (3 * s + 1) 1 = nI (i + 1)) (h3' : m 3 (3 * s) = μ 3 (3 * s) ∧ m 3 (3 * s + 2) = μ 3 (3 * s + 2)) (h23 : m 23 (3 * s + 1) = ua (μ 23 (3 * s + 1)) i x) (h23' : m 23 (3 * s) = μ 23 (3 * s) ∧ m 23 (3 * s + 2) = μ 23 (3 * s + 2)) (hK : m 7 s = μ 7 s ∧ m 24 s = μ 24 s ∧ m 25 s = μ 25 s ∧ m 26 s = μ 26 s) : ST m s (ua (ua a (22 + i) y) 7 (nI (i + 1))) E (i + 1) C O := by
  obtain ⟨t1, t2, t3, t4, t5, t6, t7, t8, t9, t10, t11, t12, t13, t14, t15, t16, t17, t18⟩ := h
  obtain ⟨k7, k24, k25, k26⟩ := hK
  have A : ∀ k, k ≠ 7 → k ≠ 22 + i → (ua (ua a (22 + i) y) 7 (nI (i + 1))) k = a k := fun k k1 k2 => by rw [ua_N k1, ua_N k2]
  refine ⟨t1, t2, by omega, t4, t5, ⟨by rw [h3'.1]; exact t6.1, by rw [A _ (by omega) (by omega)]; exact t6.2⟩, ⟨h3, ua_S⟩, ⟨by rw [h3'.2]; exact t8.1, by rw [A _ (by omega) (by omega)]; exact t8.2⟩, ⟨by rw [k7]; exact t9.1, by rw [A _ (by omega) (by omega)]; exact t9.2⟩, by rw [k7, A _ (by omega) (by omega)]; exact t10, by rw [k7, A _ (by omega) (by omega)]; exact t11, by rw [k7, A _ (by omega) (by omega)]; exact t12, by rw [k7, A _ (by omega) (by omega)]; exact t13, fun e he => by rw [h23'.1, A _ (by omega) (by omega)]; exact t14 e he, fun e he => ?_, fun e he => by rw [h23'.2, k25, A _ (by omega) (by omega), A _ (by omega) (by omega)]; exact t16 e he, fun e he => by rw [k26, A _ (by omega) (by omega)]; exact t17 e he, by rw [k7, k24, A _ (by omega) (by omega)]; exact t18⟩
  rw [h23, ua_N (show 22 + e ≠ 7 by omega)]
  by_cases c : e = i
  · subst c; rw [ua_S, ua_S]; exact hN
  · rw [ua_N c, ua_N (by omega)]; exact t15 e (by omega)
theorem I_place {i : Nat} (hi : i ≤ 6) (hR : RS0 8 μ ν B L) (hS : SAN s μ ν) (z : μ 8 0 4 = 0) (hT : ST μ s (ν 40 0) E i C O) (hF : FSH s μ ν C O) (hw : f_Reader_sees 8 4 μ = some 1) (hw' : f_R_isWord 29 ν = some 1) :
    ∃ m v, s_SetupReader_readNames_15 4 (3 * s + 1) (nI i) μ = some (.inl (nI (i + 1), m)) ∧ f_R_readsPlace ν = some v ∧ RS0 8 m v B L ∧ SAN s m v ∧ FLd s μ m ν v ∧ (m 8 0 4 = 0 → i < 6 ∧ ST m s (v 40 0) E (i + 1) C O ∧ FSH s m v C O) := by
  have z' : ν 13 0 16 = 0 := by rw [← hR.er]; exact z
  have hcnt : μ 3 (3 * s + 1) 1 = nI i ∧ ν 40 0 7 = nI i := by
    obtain ⟨t1, t2, t3, t4, t5, t6, t7, t8, t9, -⟩ := hT
    exact t7
  have hNs : ∀ e, e < i → NM (μ 23 (3 * s + 1) e) (ν 40 0 (22 + e)) := by
    obtain ⟨t1, t2, t3, t4, t5, t6, t7, t8, t9, t10, t11, t12, t13, t14, t15, -⟩ := hT
    exact t15
  obtain ⟨r4, m1, v1, c1, c2, c3, c4, c5⟩ := P_counted (w := 4) (w' := 29) (i := i) (lim := 6) (ix := 7) rfl (by decide) hi (by omega) hR z hw hcnt.2
  have hg : ∀ y v, (∀ K', K' ≠ 13 → v K' = v1 K') → f_R_placeNamed y v = some (fdI (fun k => decide (v1 40 0 (22 + 1 * k) = y)) 0 i) := fun y v hv => by
    unfold f_R_placeNamed
    rw [ib_7_524, chk_t, tn_7, hv 40 (by omega), c4.2.1.2.2.1 40 (by omega), hcnt.2, show (22 : Int32) = nI 22 from rfl, show (1 : Int32) = nI 1 from rfl, R_named (by omega) (by omega) (by omega), bind_s, hv 40 (by omega), c4.2.1.2.2.1 40 (by omega)]
  obtain ⟨x, y, m2, v2a, v2, q, n1, n2, n3, n4, n5, n6⟩ := P_new (j := (3 * s + 1)) (b0 := 22) (st := 1) (cnt := i) (m0 := i) (g := f_R_placeNamed) n8 c4.1 (by rw [c4.2.1.1 3 (by omega)]; exact hcnt.1) (by omega) hg (fun _ => ⟨rfl, fun k hk => by rw [c4.2.1.1 23 (by omega), c4.2.1.2.2.1 40 (by omega), Nat.one_mul]; exact hNs k hk⟩)
  have h3m : m2 3 (3 * s + 1) 1 = nI i := by rw [n5.2.1.1 3 (by omega), c4.2.1.1 3 (by omega)]; exact hcnt.1
  have hR3 : RS0 8 (st3 (st3 m2 23 (3 * s + 1) i x) 3 (3 * s + 1) 1 (nI (i + 1))) v2 B L := n5.1.cong (by rw [st3_K (by omega), st3_K (by omega)]) (by rw [st3_K (by omega), st3_K (by omega)]) (by rw [st3_K (by omega), st3_K (by omega)]) rfl rfl
  obtain ⟨m, v3, e1, e2, e3⟩ := P_takeSign (c := 59) n8 (Or.inl rfl) hR3
  have z32 : m 8 0 4 = 0 → m2 8 0 4 = 0 := fun w => by have := e3.2.2 w; rwa [st3_K (by omega), st3_K (by omega)] at this
  have mK : ∀ K, K ≠ 8 → K ≠ 3 → K ≠ 23 → m K = μ K := fun K k1 k2 k3 => by rw [e3.2.1.1 K k1, st3_K k2, st3_K k3, n5.2.1.1 K k1, c4.2.1.1 K k1]
  have m3j : ∀ j', j' ≠ (3 * s + 1) → m 3 j' = μ 3 j' := fun j' w => by rw [e3.2.1.1 3 (by omega), st3_J w, st3_K (by omega), n5.2.1.1 3 (by omega), c4.2.1.1 3 (by omega)]
  have m23j : ∀ j', j' ≠ (3 * s + 1) → m 23 j' = μ 23 j' := fun j' w => by rw [e3.2.1.1 23 (by omega), st3_K (by omega), st3_J w, n5.2.1.1 23 (by omega), c4.2.1.1 23 (by omega)]
  have m3 : m 3 (3 * s + 1) 1 = nI (i + 1) := by rw [e3.2.1.1 3 (by omega), st3_ua, ua_S]
  have m23 : m 23 (3 * s + 1) = ua (μ 23 (3 * s + 1)) i x := by rw [e3.2.1.1 23 (by omega), st3_K (by omega), st3_ua, n5.2.1.1 23 (by omega), c4.2.1.1 23 (by omega)]
  have v40 : v3 40 = ν 40 := by rw [e3.2.1.2.2.1 40 (by omega), n5.2.1.2.2.1 40 (by omega), c4.2.1.2.2.1 40 (by omega)]
  have hb : ∀ F : Mem → Option Mem, (if q = -1 then some 1 else some 0 : Option Int32).bind (fun z => (f_R_passesName z v2a).bind F) = F v2 := fun F => by
    have e9 := congrArg (fun t => Option.bind t F) n4
    rw [bind_if]
    rw [bind_if] at n4
    rw [n4, bind_s]
  have eC : s_SetupReader_readNames_15 4 (3 * s + 1) (nI i) μ = some (.inl (nI (i + 1), m)) := by
    unfold s_SetupReader_readNames_15
    rw [if_neg (ng_6 hi), hw, bind_s, if_neg (by decide), show f_Reader_takeCounted 8 4 (nI i) 6 μ = some m1 from c1, bind_s, n1, bind_s]
    unfold f_Names_add
    rw [snd_, fst_, h3m, if_neg (gl_8 (by omega)), chk_of (inb_of (by omega) (by omega)), nI_clamp (by omega), nm_9, st3_K (by omega), h3m, nI_1, nm_9, bind_s, show f_Reader_takeSign 8 59 (st3 (st3 m2 23 (3 * s + 1) i x) 3 (3 * s + 1) 1 (nI (i + 1))) = some m from e1, bind_s]
  have eM : f_R_readsPlace ν = if v3 13 0 16 = 0 then some (st3 (st3 v3 40 0 (22 + i) y) 40 0 7 (nI (i + 1))) else some v3 := by
    unfold f_R_readsPlace
    rw [hw', bind_s, must_ok z', bind_s, snd_, ib_7_524, chk_t, tn_7, bind_if, show f_R_must (if (6 : Int32) ≤ ν 40 0 7 then 0 else 1) 4 ν = some r4 from c2, bind_s, c3, bind_s, n2, bind_s, n3, bind_s, hb, show f_R_takesSign 59 v2 = some v3 from e2, bind_s, v40, hcnt.2, show (22 : Int32) + nI i = nI (22 + i) from nI_add 22 i, chk_of (inb_of (by omega) (by omega)), nI_clamp (by omega), nm_9, chk_t, chk_t, st3_ua, ua_N (by omega), v40, hcnt.2, nI_1, nm_9, chk_t, fst_]
  by_cases w : m 8 0 4 = 0
  · have hi6 : i < 6 := c5 (n5.2.2 (z32 w))
    rw [if_pos (by rw [← e3.1.er]; exact w)] at eM
    have v40' : (st3 (st3 v3 40 0 (22 + i) y) 40 0 7 (nI (i + 1))) 40 0 = ua (ua (ν 40 0) (22 + i) y) 7 (nI (i + 1)) := by rw [st3_ua, st3_ua, v40]
    have hT' : ST m s (ua (ua (ν 40 0) (22 + i) y) 7 (nI (i + 1))) E (i + 1) C O := ST_add_place hT hi6 (n6 (z32 w)) m3 ⟨m3j _ (by omega), m3j _ (by omega)⟩ m23 ⟨m23j _ (by omega), m23j _ (by omega)⟩ ⟨by rw [mK 7 (by omega) (by omega) (by omega)], by rw [mK 24 (by omega) (by omega) (by omega)], by rw [mK 25 (by omega) (by omega) (by omega)], by rw [mK 26 (by omega) (by omega) (by omega)]⟩
    refine ⟨m, _, eC, eM, e3.1.cong rfl rfl rfl (by rw [st3_K (by omega), st3_K (by omega)]) (by rw [st3_K (by omega), st3_K (by omega)]), ?_, ?_, fun _ => ⟨hi6, by rw [v40']; exact hT', ?_⟩⟩
    · obtain ⟨u1, u2, u3, u4, u5, u6, u7, u8⟩ := hS
      unfold SAN
      rw [v40']
      refine ⟨by rw [m3j _ (by omega)]; exact u1, ⟨i + 1, by omega, m3⟩, by rw [m3j _ (by omega)]; exact u3, by rw [mK 7 (by omega) (by omega) (by omega)]; exact u4, by rw [ua_N (by omega), ua_N (by omega)]; exact u5, ⟨i + 1, by omega, ua_S⟩, by rw [ua_N (by omega), ua_N (by omega)]; exact u7, by rw [ua_N (by omega), ua_N (by omega)]; exact u8⟩
    · exact (((((c4.2.1.fld.tr n5.2.1.fld).tr ((FLd.rf.c (Or.inr (Or.inl ⟨rfl, by omega⟩))).c (Or.inl ⟨rfl, by omega⟩))).tr e3.2.1.fld)).m).m
    · obtain ⟨f1, f2, f3, f4, f5⟩ := hF
      have hC8 : C ≤ 8 := hT.2.2.2.1
      have hO5 : O ≤ 5 := hT.2.2.2.2.1
      unfold FSH
      rw [v40']
      have A : ∀ k, k ≠ 7 → k ≠ 22 + i → (ua (ua (ν 40 0) (22 + i) y) 7 (nI (i + 1))) k = ν 40 0 k := fun k k1 k2 => by rw [ua_N k1, ua_N k2]
      rw [A 5 (by omega) (by omega), A 10 (by omega) (by omega), A 11 (by omega) (by omega), A 12 (by omega) (by omega), A 13 (by omega) (by omega), A 14 (by omega) (by omega), A 0 (by omega) (by omega), mK 7 (by omega) (by omega) (by omega), mK 24 (by omega) (by omega) (by omega)]
      exact ⟨f1, f2, fun c hc => by rw [A _ (by omega) (by omega)]; exact f3 c hc, fun o ho => by rw [A _ (by omega) (by omega), A _ (by omega) (by omega)]; exact f4 o ho, fun o ho => by rw [A _ (by omega) (by omega)]; exact f5 o ho⟩
  · rw [if_neg (by rw [← e3.1.er]; exact w)] at eM
    refine ⟨m, v3, eC, eM, e3.1, ?_, ((((c4.2.1.fld.tr n5.2.1.fld).tr ((FLd.rf.c (Or.inr (Or.inl ⟨rfl, by omega⟩))).c (Or.inl ⟨rfl, by omega⟩))).tr e3.2.1.fld)), fun q => absurd q w⟩
    obtain ⟨u1, u2, u3, u4, u5, u6, u7, u8⟩ := hS
    unfold SAN
    rw [v40]
    exact ⟨by rw [m3j _ (by omega)]; exact u1, ⟨i + 1, by omega, m3⟩, by rw [m3j _ (by omega)]; exact u3, by rw [mK 7 (by omega) (by omega) (by omega)]; exact u4, u5, u6, u7, u8⟩
theorem er_place (h : ν 13 0 16 ≠ 0) (hS : SAN s μ ν) : f_R_readsPlace ν = some ν := by
  obtain ⟨-, -, -, -, ⟨n6, u6, h6⟩, ⟨n7, u7, h7⟩, -⟩ := hS
  unfold f_R_readsPlace
  rw [word_er h, bind_s, must_er h, bind_s, snd_, ib_7_524, chk_t, tn_7, bind_if, must_er h, bind_s, snd_, goes_er h, bind_s, looks_er h, bind_s]
  have : f_R_placeNamed 0 ν = some (fdI (fun k => decide (ν 40 0 (22 + 1 * k) = 0)) 0 n7) := by
    unfold f_R_placeNamed
    rw [ib_7_524, chk_t, tn_7, h7, show (22 : Int32) = nI 22 from rfl, show (1 : Int32) = nI 1 from rfl, R_named (by omega) (by omega) (by omega), bind_s]
  rw [this, bind_s, bind_if, snd_, pass_er h, bind_s, sign_er h, bind_s, if_neg h]
theorem L_places (h : LD s μ ν B L E 0 C O) : ∃ m v1 v, f_SetupReader_readNames 4 (3 * s + 1) μ = some m ∧ f_R_readsPlace ν = some v1 ∧ it (fun (s : Mem) => s_R_readsSetup_126 s) LIM v1 = some v ∧ FLd s μ m ν v ∧ ∃ i', LD s m v B L E i' C O := by
  obtain ⟨hR, hS, hT⟩ := h
  obtain ⟨r, s1, s2, s3⟩ := P_sees (w := 4) (w' := 29) rfl (by decide) hR
  have he := hR.er
  unfold f_SetupReader_readNames
  rw [s1, bind_s]
  -- what the loops do from the second word on
  have lp : ∀ (k i : Nat) (m v : Mem), i + k = 7 → 1 ≤ i → RS0 8 m v B L → SAN s m v → FLd s μ m ν v → (m 8 0 4 = 0 → i ≤ 6 ∧ ST m s (v 40 0) E i C O ∧ FSH s m v C O) → ∃ m' v', it (fun (q : Int32 × Mem) => s_SetupReader_readNames_15 4 (3 * s + 1) q.1 q.2) (k + 1) (nI i, m) = some m' ∧ it (fun (q : Mem) => s_R_readsSetup_126 q) (k + 1) v = some v' ∧ FLd s μ m' ν v' ∧ ∃ i', LD s m' v' B L E i' C O := by
    intro k
    induction k with
    | zero =>
      intro i m v hik hi1 hR hS hF hx
      have ze : ¬ m 8 0 4 = 0 := fun q => by have := (hx q).1; omega
      refine ⟨m, v, it_r ?_, it_r ?_, hF, i, hR, hS, fun q => absurd q ze⟩
      · show s_SetupReader_readNames_15 4 (3 * s + 1) (nI i) m = _
        unfold s_SetupReader_readNames_15
        rw [if_pos (gg_6 (by omega) (by omega))]
      · show s_R_readsSetup_126 v = _
        unfold s_R_readsSetup_126
        rw [word_er (by rw [← hR.er]; exact ze), bind_s, if_pos rfl]
    | succ k ih =>
      intro i m v hik hi1 hR hS hF hx
      obtain ⟨r, s1, s2, s3⟩ := P_sees (w := 4) (w' := 29) rfl (by decide) hR
      rcases s3 with rfl | ⟨rfl, z, -⟩
      · refine ⟨m, v, it_mono (show 0 + 1 ≤ k + 1 + 1 by omega) (it_r ?_), it_mono (show 0 + 1 ≤ k + 1 + 1 by omega) (it_r ?_), hF, i, hR, hS, fun q => (hx q).2⟩
        · show s_SetupReader_readNames_15 4 (3 * s + 1) (nI i) m = _
          unfold s_SetupReader_readNames_15
          rw [if_neg (ng_6 (by omega)), s1, bind_s, if_pos rfl]
        · show s_R_readsSetup_126 v = _
          unfold s_R_readsSetup_126
          rw [s2, bind_s, if_pos rfl]
      · obtain ⟨hi6, hT, hF2⟩ := hx z
        obtain ⟨m', v', i1, i2, i3, i4, i5, i6⟩ := I_place hi6 hR hS z hT hF2 s1 s2
        obtain ⟨m2, v2, j1, j2, j3, j4⟩ := ih (i + 1) m' v' (by omega) (by omega) i3 i4 (hF.tr i5) (fun q => ⟨by have := (i6 q).1; omega, (i6 q).2⟩)
        refine ⟨m2, v2, it_l i1 j1, it_l ?_ j2, j3, j4⟩
        show s_R_readsSetup_126 v = _
        unfold s_R_readsSetup_126
        rw [s2, bind_s, if_neg (by decide), i2, bind_s]
  rcases s3 with rfl | ⟨rfl, z, -⟩
  · obtain ⟨m, v, f1, f2, f3, f4⟩ := P_fail (c := 1) n8 (by decide) hR
    have v16 : v 13 0 16 ≠ 0 := by rw [← f3.1.er]; exact f4
    have hS1 : SAN s m v := hS.cong (f3.2.1.1 3 (by omega)) (by rw [f3.2.1.1 7 (by omega)]) (fun k _ _ => by rw [f3.2.1.2.2.1 40 (by omega)])
    obtain ⟨u1, u2, u3, u4, ⟨n6, g6, h6⟩, ⟨n7, g7, h7⟩, u7, u8⟩ := hS
    refine ⟨m, v, v, ?_, ?_, ?_, f3.2.1.fld, 0, f3.1, hS1, fun q => absurd q f4⟩
    · rw [if_pos rfl, f1, bind_s, bind_s]
      have : it (fun (q : Int32 × Mem) => s_SetupReader_readNames_15 4 (3 * s + 1) q.1 q.2) LIM (0, m) = some m := by
        refine it_mono (show 0 + 1 ≤ 3000000 by omega) (it_r ?_)
        show s_SetupReader_readNames_15 4 (3 * s + 1) 0 m = _
        unfold s_SetupReader_readNames_15
        rw [if_neg (by decide), sees_er f4, bind_s, if_pos rfl]
      rw [this, bind_s]
    · have e0 := er_place v16 hS1
      unfold f_R_readsPlace at e0 ⊢
      rw [s2, bind_s, f2, bind_s, snd_]
      rw [word_er v16, bind_s, must_er v16, bind_s, snd_] at e0
      exact e0
    · refine it_mono (show 0 + 1 ≤ 3000000 by omega) (it_r ?_)
      show s_R_readsSetup_126 v = _
      unfold s_R_readsSetup_126
      rw [word_er v16, bind_s, if_pos rfl]
  · obtain ⟨hT1, hF1⟩ := hT z
    obtain ⟨m1, v1, i1, i2, i3, i4, i5, i6⟩ := I_place (i := 0) (by omega) hR hS z hT1 hF1 s1 s2
    obtain ⟨m', v', j1, j2, j3, j4⟩ := lp 6 1 m1 v1 rfl (Nat.le_refl _) i3 i4 i5 (fun q => ⟨by have := (i6 q).1; omega, (i6 q).2⟩)
    have hc : it (fun (q : Int32 × Mem) => s_SetupReader_readNames_15 4 (3 * s + 1) q.1 q.2) LIM (0, μ) = some m' := it_mono (show 6 + 1 + 1 ≤ 3000000 by omega) (it_l i1 j1)
    have hm : it (fun (q : Mem) => s_R_readsSetup_126 q) LIM v1 = some v' := it_mono (show 6 + 1 ≤ 3000000 by omega) j2
    exact ⟨m', v1, v', by rw [if_neg (by decide), bind_s, hc, bind_s], i2, hm, j3, j4⟩
end LoadN

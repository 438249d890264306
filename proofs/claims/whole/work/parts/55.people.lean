/-! The setup is read: customers and owls. -/
theorem sm_ua {g : Nat → Int32} {n k : Nat} {x : Int32} (h : n ≤ k) : sm (ua g k x) n = sm g n := sm_congr (fun i hi => ua_N (by omega))
section LoadP
variable {s : Nat} {μ ν : Mem} {B : Nat → Nat} {L E P C O : Nat}
theorem ST_add_customer {m : Mem} {a : Nat → Int32} {i d : Nat} {x y p : Int32} (h : ST μ s a E P i O) (hi : i < 8) (hN : NM x y) (hd : 1 ≤ d ∧ d ≤ 30) (h3 : m 3 (3 * s + 2) 1 = nI (i + 1)) (h3' : m 3 (3 * s) = μ 3 (3 * s) ∧ m 3 (3 * s + 1) = μ 3 (3 * s + 1)) (h23 : m 23 (3 * s + 2) = ua (μ 23 (3 * s + 2)) i x) (h23' : m 23 (3 * s) = μ 23 (3 * s) ∧ m 23 (3 * s + 1) = μ 23 (3 * s + 1)) (h24 : m 24 s = ua (μ 24 s) i p) (h25 : m 25 s = ua (μ 25 s) i (nI d)) (hK : m 7 s = μ 7 s ∧ m 26 s = μ 26 s) : ST m s (ua (ua (ua (ua (ua a (28 + 3 * i) y) (28 + 3 * i + 1) p) (28 + 3 * i + 2) (nI d)) 15 (a 15 + p)) 8 (nI (i + 1))) E P (i + 1) O := by
  obtain ⟨t1, t2, t3, t4, t5, t6, t7, t8, t9, t10, t11, t12, t13, t14, t15, t16, t17, t18⟩ := h
  obtain ⟨k7, k26⟩ := hK
  have A : ∀ k, k ≠ 8 → k ≠ 15 → (k < 28 + 3 * i ∨ 28 + 3 * i + 3 ≤ k) → (ua (ua (ua (ua (ua a (28 + 3 * i) y) (28 + 3 * i + 1) p) (28 + 3 * i + 2) (nI d)) 15 (a 15 + p)) 8 (nI (i + 1))) k = a k := fun k k1 k2 k3 => by rw [ua_N k1, ua_N k2, ua_N (by omega), ua_N (by omega), ua_N (by omega)]
  refine ⟨t1, t2, t3, by omega, t5, ⟨by rw [h3'.1]; exact t6.1, by rw [A _ (by omega) (by omega) (by omega)]; exact t6.2⟩, ⟨by rw [h3'.2]; exact t7.1, by rw [A _ (by omega) (by omega) (by omega)]; exact t7.2⟩, ⟨h3, ua_S⟩, ⟨by rw [k7]; exact t9.1, by rw [A _ (by omega) (by omega) (by omega)]; exact t9.2⟩, by rw [k7, A _ (by omega) (by omega) (by omega)]; exact t10, by rw [k7, A _ (by omega) (by omega) (by omega)]; exact t11, by rw [k7, A _ (by omega) (by omega) (by omega)]; exact t12, by rw [k7, A _ (by omega) (by omega) (by omega)]; exact t13, fun e he => by rw [h23'.1, A _ (by omega) (by omega) (by omega)]; exact t14 e he, fun e he => by rw [h23'.2, A _ (by omega) (by omega) (by omega)]; exact t15 e he, fun e he => ?_, fun e he => by rw [k26, A _ (by omega) (by omega) (by omega)]; exact t17 e he, ?_⟩
  · rw [h23, h25]
    by_cases c : e = i
    · subst c
      rw [ua_S, ua_S]
      refine ⟨?_, d, hd.1, hd.2, rfl, ?_⟩
      · rw [ua_N (by omega), ua_N (by omega), ua_N (by omega), ua_N (by omega)]
        show NM x (ua a (28 + 3 * e) y (28 + 3 * e))
        rw [ua_S]; exact hN
      · rw [ua_N (by omega), ua_N (by omega), ua_S]
    · rw [ua_N c, ua_N c, A _ (by omega) (by omega) (by omega), A _ (by omega) (by omega) (by omega)]
      exact t16 e (by omega)
  · rw [ua_N (by omega), ua_S, k7, h24, t18]
    show _ = μ 7 s 0 + (sm (ua (μ 24 s) i p) i + ua (μ 24 s) i p i)
    rw [sm_ua (Nat.le_refl _), ua_S, Int32.add_assoc]
theorem ST_add_owl {m : Mem} {a : Nat → Int32} {i d : Nat} (h : ST μ s a E P C i) (hi : i < 5) (hd : 1 ≤ d ∧ d ≤ 9) (h3 : m 3 = μ 3) (h23 : m 23 = μ 23) (h7 : m 7 s = ua (μ 7 s) 11 (nI (i + 1))) (h26 : m 26 s = ua (μ 26 s) i (nI d)) (hK : m 24 s = μ 24 s ∧ m 25 s = μ 25 s) : ST m s (ua (ua (ua a (52 + 5 * i + 0) (nI d)) (52 + 5 * i + 3) (-1)) 9 (nI (i + 1))) E P C (i + 1) := by
  obtain ⟨t1, t2, t3, t4, t5, t6, t7, t8, t9, t10, t11, t12, t13, t14, t15, t16, t17, t18⟩ := h
  have A : ∀ k, k ≠ 9 → k ≠ 52 + 5 * i + 0 → k ≠ 52 + 5 * i + 3 → (ua (ua (ua a (52 + 5 * i + 0) (nI d)) (52 + 5 * i + 3) (-1)) 9 (nI (i + 1))) k = a k := fun k k1 k2 k3 => by rw [ua_N k1, ua_N k3, ua_N k2]
  have k7 : ∀ f, f ≠ 11 → m 7 s f = μ 7 s f := fun f hf => by rw [h7, ua_N hf]
  refine ⟨t1, t2, t3, t4, by omega, ⟨by rw [h3]; exact t6.1, by rw [A _ (by omega) (by omega) (by omega)]; exact t6.2⟩, ⟨by rw [h3]; exact t7.1, by rw [A _ (by omega) (by omega) (by omega)]; exact t7.2⟩, ⟨by rw [h3]; exact t8.1, by rw [A _ (by omega) (by omega) (by omega)]; exact t8.2⟩, ⟨by rw [h7, ua_S], ua_S⟩, by rw [k7 _ (by omega), A _ (by omega) (by omega) (by omega)]; exact t10, by rw [k7 _ (by omega), A _ (by omega) (by omega) (by omega)]; exact t11, by rw [k7 _ (by omega), A _ (by omega) (by omega) (by omega)]; exact t12, by rw [k7 _ (by omega), A _ (by omega) (by omega) (by omega)]; exact t13, fun e he => by rw [h23, A _ (by omega) (by omega) (by omega)]; exact t14 e he, fun e he => by rw [h23, A _ (by omega) (by omega) (by omega)]; exact t15 e he, fun e he => by rw [h23, hK.2, A _ (by omega) (by omega) (by omega), A _ (by omega) (by omega) (by omega)]; exact t16 e he, fun e he => ?_, by rw [k7 _ (by omega), hK.1, A _ (by omega) (by omega) (by omega)]; exact t18⟩
  rw [h26]
  by_cases c : e = i
  · subst c
    exact ⟨d, hd.1, hd.2, by rw [ua_S], by rw [ua_N (by omega), ua_N (by omega), ua_S]⟩
  · rw [ua_N c, A _ (by omega) (by omega) (by omega)]
    exact t17 e (by omega)
theorem I_customer {i : Nat} (hi : i ≤ 8) (hR : RS0 8 μ ν B L) (hS : SAN s μ ν) (z : μ 8 0 4 = 0) (hT : ST μ s (ν 40 0) E P i O) (hF : FSH s μ ν i O) (hw : f_Reader_sees 8 5 μ = some 1) :
    ∃ m v, s_SetupReader_readCustomers_2 s (nI i) μ = some (.inl (nI (i + 1), m)) ∧ f_R_readsCustomer ν = some v ∧ RS0 8 m v B L ∧ SAN s m v ∧ FLd s μ m ν v ∧ (m 8 0 4 = 0 → i < 8 ∧ ST m s (v 40 0) E P (i + 1) O ∧ FSH s m v (i + 1) O) := by
  have z' : ν 13 0 16 = 0 := by rw [← hR.er]; exact z
  have hcnt : μ 3 (3 * s + 2) 1 = nI i ∧ ν 40 0 8 = nI i := by
    obtain ⟨t1, t2, t3, t4, t5, t6, t7, t8, -⟩ := hT
    exact t8
  have hNs : ∀ e, e < i → NM (μ 23 (3 * s + 2) e) (ν 40 0 (28 + 3 * e)) := by
    obtain ⟨t1, t2, t3, t4, t5, t6, t7, t8, t9, t10, t11, t12, t13, t14, t15, t16, -⟩ := hT
    exact fun e he => (t16 e he).1
  obtain ⟨r4, m1, v1, c1, c2, c3, c4, c5⟩ := P_counted (w := 5) (w' := 30) (i := i) (lim := 8) (ix := 8) rfl (by decide) hi (by omega) hR z hw hcnt.2
  have hg : ∀ y v, (∀ K', K' ≠ 13 → v K' = v1 K') → f_R_customerNamed y v = some (fdI (fun k => decide (v1 40 0 (28 + 3 * k) = y)) 0 i) := fun y v hv => by
    unfold f_R_customerNamed
    rw [ib_8_524, chk_t, tn_8, hv 40 (by omega), c4.2.1.2.2.1 40 (by omega), hcnt.2, show (28 : Int32) = nI 28 from rfl, show (3 : Int32) = nI 3 from rfl, R_named (by omega) (by omega) (by omega), bind_s, hv 40 (by omega), c4.2.1.2.2.1 40 (by omega)]
  obtain ⟨x, y, m2, v2a, v2, q, n1, n2, n3, n4, n5, n6⟩ := P_new (j := 3 * s + 2) (b0 := 28) (st := 3) (cnt := i) (m0 := i) (g := f_R_customerNamed) n8 c4.1 (by rw [c4.2.1.1 3 (by omega)]; exact hcnt.1) (by omega) hg (fun _ => ⟨rfl, fun k hk => by rw [c4.2.1.1 23 (by omega), c4.2.1.2.2.1 40 (by omega)]; exact hNs k hk⟩)
  obtain ⟨x3, y3, m3, v3, a3, b3, p3, d3⟩ := P_number (lo := 0) (hi := 9999) n8 (by omega) (by omega) n5.1
  obtain ⟨x4, y4, m4, v4, a4, b4, p4, d4⟩ := P_number (lo := 1) (hi := 30) n8 (by omega) (by omega) p3.1
  obtain ⟨m5, v5, e1, e2, e3⟩ := P_takeSign (c := 59) n8 (Or.inl rfl) p4.1
  have F5 : FRD 8 μ m5 ν v5 := (((c4.2.1.tr n5.2.1).tr p3.2.1).tr p4.2.1).tr e3.2.1
  have k3 : m5 3 (3 * s + 2) 1 = nI i := by rw [F5.1 3 (by omega)]; exact hcnt.1
  have v40 : v5 40 = ν 40 := F5.2.2.1 40 (by omega)
  have z4 : m5 8 0 4 = 0 → m4 8 0 4 = 0 := e3.2.2
  have z3 : m5 8 0 4 = 0 → m3 8 0 4 = 0 := fun w => p4.2.2 (z4 w)
  have z2 : m5 8 0 4 = 0 → m2 8 0 4 = 0 := fun w => p3.2.2 (z3 w)
  have hb : ∀ F : Mem → Option Mem, (if q = -1 then some 1 else some 0 : Option Int32).bind (fun z => (f_R_passesName z v2a).bind F) = F v2 := fun F => by
    rw [bind_if]
    rw [bind_if] at n4
    rw [n4, bind_s]
  have eC0 : ∀ r7, f_Setup_addCustomer s x x3 x4 m5 = some r7 → s_SetupReader_readCustomers_2 s (nI i) μ = some (.inl (nI (i + 1), r7)) := fun r7 hr => by
    unfold s_SetupReader_readCustomers_2
    rw [if_neg (ng_8 hi), hw, bind_s, if_neg (by decide), show f_Reader_takeCounted 8 5 (nI i) 8 μ = some m1 from c1, bind_s, n1, bind_s, show f_Reader_takeNumber 8 0 9999 m2 = some (x3, m3) from a3, bind_s, show f_Reader_takeNumber 8 1 30 m3 = some (x4, m4) from a4, bind_s, show f_Reader_takeSign 8 59 m4 = some m5 from e1, bind_s, fst_, fst_, fst_, hr, bind_s, nI_1]
  have eM : f_R_readsCustomer ν = if v5 13 0 16 = 0 then some (st3 (st3 (st3 (st3 (st3 v5 40 0 (28 + 3 * i) y) 40 0 (28 + 3 * i + 1) y3) 40 0 (28 + 3 * i + 2) y4) 40 0 15 (ν 40 0 15 + y3)) 40 0 8 (nI (i + 1))) else some v5 := by
    unfold f_R_readsCustomer
    rw [ib_8_524, chk_t, tn_8, bind_if, show f_R_must (if (8 : Int32) ≤ ν 40 0 8 then 0 else 1) 4 ν = some r4 from c2, bind_s, c3, bind_s, n2, bind_s, n3, bind_s, hb, show f_R_number 0 9999 v2 = some (y3, v3) from b3, bind_s, show f_R_number 1 30 v3 = some (y4, v4) from b4, bind_s, show f_R_takesSign 59 v4 = some v5 from e2, bind_s, v40, hcnt.2, fst_, fst_, fst_]
    split
    · have i0 : (28 : Int32) + 3 * nI i = nI (28 + 3 * i) := by rw [show (28 : Int32) = nI 28 from rfl, show (3 : Int32) = nI 3 from rfl, pk_mul, nI_add]
      have i1 : nI (28 + 3 * i) + 0 = nI (28 + 3 * i) := Int32.add_zero _
      have i2 : nI (28 + 3 * i) + 2 = nI (28 + 3 * i + 2) := nI_add _ 2
      rename_i w
      by_cases hi8 : i < 8
      · have u15 : st3 (st3 (st3 v5 40 0 (28 + 3 * i) y) 40 0 (28 + 3 * i + 1) y3) 40 0 (28 + 3 * i + 2) y4 40 0 15 = ν 40 0 15 := by rw [st3_ua, ua_N (by omega), st3_ua, ua_N (by omega), st3_ua, ua_N (by omega), v40]
        have u8 : ∀ t, st3 (st3 (st3 (st3 v5 40 0 (28 + 3 * i) y) 40 0 (28 + 3 * i + 1) y3) 40 0 (28 + 3 * i + 2) y4) 40 0 15 t 40 0 8 = nI i := fun t => by rw [st3_ua, ua_N (by omega), st3_ua, ua_N (by omega), st3_ua, ua_N (by omega), st3_ua, ua_N (by omega), v40]; exact hcnt.2
        rw [i0, nm_9, i1, chk_of (inb_of (show 28 + 3 * i < 524 by omega) (by omega)), nI_clamp (by omega), nm_9, nI_1, chk_of (inb_of (show 28 + 3 * i + 1 < 524 by omega) (by omega)), nI_clamp (by omega), nm_9, i2, chk_of (inb_of (show 28 + 3 * i + 2 < 524 by omega) (by omega)), nI_clamp (by omega), nm_9, ib_15_524, chk_t, chk_t, tn_15, u15, nm_9, chk_t, chk_t, u8, nI_1, nm_9, chk_t]
      · exfalso
        exact hi8 (c5 (n5.2.2 (z2 (by rw [e3.1.er]; exact w))))
    · rfl
  obtain ⟨u1, u2, u3, u4, u5, u6, u7, u8⟩ := hS
  have m7 : m5 7 = μ 7 := F5.1 7 (by omega)
  have m3j : m5 3 = μ 3 := F5.1 3 (by omega)
  by_cases hi8 : i < 8
  · generalize hmm : st3 (st3 (st3 (st3 m5 24 s i x3) 25 s i x4) 23 (3 * s + 2) i x) 3 (3 * s + 2) 1 (nI (i + 1)) = m
    have hadd : f_Setup_addCustomer s x x3 x4 m5 = some m := by
      unfold f_Setup_addCustomer
      rw [nm_9, k3, if_neg (gl_8 hi8), chk_of (inb_of hi8 (by omega)), nI_clamp (by omega), nm_9, chk_of (inb_of hi8 (by omega)), nm_9]
      unfold f_Names_add
      rw [st3_K (show 3 ≠ 25 by omega), st3_K (show 3 ≠ 24 by omega), k3, if_neg (gl_8 hi8), chk_of (inb_of hi8 (by omega)), nI_clamp (by omega), nm_9, st3_K (show 3 ≠ 23 by omega), st3_K (show 3 ≠ 25 by omega), st3_K (show 3 ≠ 24 by omega), k3, nI_1, nm_9, hmm, bind_s]
    have mK : ∀ K, K ≠ 3 → K ≠ 23 → K ≠ 24 → K ≠ 25 → m K = m5 K := fun K q1 q2 q3 q4 => by rw [← hmm, st3_K q1, st3_K q2, st3_K q4, st3_K q3]
    have hRm : RS0 8 m v5 B L := e3.1.cong (mK 8 (by omega) (by omega) (by omega) (by omega)) (mK 11 (by omega) (by omega) (by omega) (by omega)) (mK 20 (by omega) (by omega) (by omega) (by omega)) rfl rfl
    have mm3 : m 3 (3 * s + 2) 1 = nI (i + 1) := by rw [← hmm, st3_ua, ua_S]
    have mm3j : ∀ j', j' ≠ 3 * s + 2 → m 3 j' = μ 3 j' := fun j' w => by rw [← hmm, st3_J w, st3_K (by omega), st3_K (by omega), st3_K (by omega), m3j]
    have mm23 : m 23 (3 * s + 2) = ua (μ 23 (3 * s + 2)) i x := by rw [← hmm, st3_K (by omega), st3_ua, st3_K (by omega), st3_K (by omega), F5.1 23 (by omega)]
    have mm23j : ∀ j', j' ≠ 3 * s + 2 → m 23 j' = μ 23 j' := fun j' w => by rw [← hmm, st3_K (by omega), st3_J w, st3_K (by omega), st3_K (by omega), F5.1 23 (by omega)]
    have mm24 : m 24 s = ua (μ 24 s) i x3 := by rw [← hmm, st3_K (by omega), st3_K (by omega), st3_K (by omega), st3_ua, F5.1 24 (by omega)]
    have mm25 : m 25 s = ua (μ 25 s) i x4 := by rw [← hmm, st3_K (by omega), st3_K (by omega), st3_ua, st3_K (by omega), F5.1 25 (by omega)]
    have mm7 : m 7 = μ 7 := by rw [mK 7 (by omega) (by omega) (by omega) (by omega), m7]
    have mm26 : m 26 = μ 26 := by rw [mK 26 (by omega) (by omega) (by omega) (by omega), F5.1 26 (by omega)]
    have hFL : FLd s μ m ν v5 := by
      rw [← hmm]
      exact (((F5.fld.c (Or.inr (Or.inr ⟨by omega, rfl⟩))).c (Or.inr (Or.inr ⟨by omega, rfl⟩))).c (Or.inr (Or.inl ⟨rfl, by omega⟩))).c (Or.inl ⟨rfl, by omega⟩)
    by_cases w : m5 8 0 4 = 0
    · rw [if_pos (by rw [← e3.1.er]; exact w)] at eM
      obtain ⟨p, -, hp, q1, q2⟩ := d3 (z3 w)
      obtain ⟨d, hd1, hd2, q3, q4⟩ := d4 (z4 w)
      have v40' : (st3 (st3 (st3 (st3 (st3 v5 40 0 (28 + 3 * i) y) 40 0 (28 + 3 * i + 1) y3) 40 0 (28 + 3 * i + 2) y4) 40 0 15 (ν 40 0 15 + y3)) 40 0 8 (nI (i + 1))) 40 0 = ua (ua (ua (ua (ua (ν 40 0) (28 + 3 * i) y) (28 + 3 * i + 1) y3) (28 + 3 * i + 2) y4) 15 (ν 40 0 15 + y3)) 8 (nI (i + 1)) := by rw [st3_ua, st3_ua, st3_ua, st3_ua, st3_ua, v40]
      have A : ∀ k, k ≠ 8 → k ≠ 15 → (k < 28 + 3 * i ∨ 28 + 3 * i + 3 ≤ k) → (ua (ua (ua (ua (ua (ν 40 0) (28 + 3 * i) y) (28 + 3 * i + 1) y3) (28 + 3 * i + 2) y4) 15 (ν 40 0 15 + y3)) 8 (nI (i + 1))) k = ν 40 0 k := fun k k1 k2 k3 => by rw [ua_N k1, ua_N k2, ua_N (by omega), ua_N (by omega), ua_N (by omega)]
      have hT' := ST_add_customer (m := m) (x := x) (y := y) (p := x3) (d := d) hT hi8 (n6 (z2 w)) ⟨hd1, hd2⟩ mm3 ⟨mm3j _ (by omega), mm3j _ (by omega)⟩ mm23 ⟨mm23j _ (by omega), mm23j _ (by omega)⟩ mm24 (by rw [mm25, q3]) ⟨by rw [mm7], by rw [mm26]⟩
      refine ⟨m, _, eC0 m hadd, eM, hRm.cong rfl rfl rfl (by rw [st3_K (by omega), st3_K (by omega), st3_K (by omega), st3_K (by omega), st3_K (by omega)]) (by rw [st3_K (by omega), st3_K (by omega), st3_K (by omega), st3_K (by omega), st3_K (by omega)]), ?_, ((((hFL.m).m).m).m).m, fun _ => ⟨hi8, ?_, ?_⟩⟩
      · unfold SAN
        rw [v40', A 6 (by omega) (by omega) (by omega), A 7 (by omega) (by omega) (by omega), A 9 (by omega) (by omega) (by omega), mm7]
        exact ⟨by rw [mm3j _ (by omega)]; exact u1, by rw [mm3j _ (by omega)]; exact u2, ⟨i + 1, by omega, mm3⟩, u4, u5, u6, ⟨i + 1, by omega, ua_S⟩, u8⟩
      · rw [v40', q2, q4, ← q1]; exact hT'
      · obtain ⟨f1, f2, f3, f4, f5⟩ := hF
        have hO5 : O ≤ 5 := hT.2.2.2.2.1
        unfold FSH
        rw [v40', A 5 (by omega) (by omega) (by omega), A 10 (by omega) (by omega) (by omega), A 11 (by omega) (by omega) (by omega), A 12 (by omega) (by omega) (by omega), A 13 (by omega) (by omega) (by omega), A 14 (by omega) (by omega) (by omega), A 0 (by omega) (by omega) (by omega), mm7, mm24]
        refine ⟨f1, f2, fun c hc => ?_, fun o ho => by rw [A _ (by omega) (by omega) (by omega), A _ (by omega) (by omega) (by omega)]; exact f4 o ho, fun o ho => by rw [A _ (by omega) (by omega) (by omega)]; exact f5 o ho⟩
        by_cases e : c = i
        · subst e
          rw [ua_S, ua_N (by omega), ua_N (by omega), ua_N (by omega), ua_S, q1, q2]
        · rw [ua_N e, A _ (by omega) (by omega) (by omega)]
          exact f3 c (by omega)
    · rw [if_neg (by rw [← e3.1.er]; exact w)] at eM
      refine ⟨m, v5, eC0 m hadd, eM, hRm, ?_, hFL, fun q => absurd q (by rw [mK 8 (by omega) (by omega) (by omega) (by omega)]; exact w)⟩
      unfold SAN
      rw [v40, mm7]
      exact ⟨by rw [mm3j _ (by omega)]; exact u1, by rw [mm3j _ (by omega)]; exact u2, ⟨i + 1, by omega, mm3⟩, u4, u5, u6, u7, u8⟩
  · have hadd : f_Setup_addCustomer s x x3 x4 m5 = some m5 := by
      unfold f_Setup_addCustomer
      rw [nm_9, k3, if_pos (lg_8 (by omega) (by omega))]
    have w : ¬ m5 8 0 4 = 0 := fun w => hi8 (c5 (n5.2.2 (z2 w)))
    rw [if_neg (by rw [← e3.1.er]; exact w)] at eM
    refine ⟨m5, v5, eC0 m5 hadd, eM, e3.1, ?_, F5.fld, fun q => absurd q w⟩
    unfold SAN
    rw [v40, m7, m3j]
    exact ⟨u1, u2, u3, u4, u5, u6, u7, u8⟩
theorem L_customers (h : LD s μ ν B L E P 0 O) : ∃ m v, f_SetupReader_readCustomers s μ = some m ∧ it (fun (s : Mem) => s_R_readsSetup_142 s) LIM ν = some v ∧ FLd s μ m ν v ∧ ∃ i', LD s m v B L E P i' O := by
  obtain ⟨hR, hS, hT⟩ := h
  have lp : ∀ (k i : Nat) (m v : Mem), i + k = 9 → RS0 8 m v B L → SAN s m v → FLd s μ m ν v → (m 8 0 4 = 0 → i ≤ 8 ∧ ST m s (v 40 0) E P i O ∧ FSH s m v i O) → ∃ m' v', it (fun (q : Int32 × Mem) => s_SetupReader_readCustomers_2 s q.1 q.2) (k + 1) (nI i, m) = some m' ∧ it (fun (q : Mem) => s_R_readsSetup_142 q) (k + 1) v = some v' ∧ FLd s μ m' ν v' ∧ ∃ i', LD s m' v' B L E P i' O := by
    intro k
    induction k with
    | zero =>
      intro i m v hik hR hS hF hx
      have ze : ¬ m 8 0 4 = 0 := fun q => by have := (hx q).1; omega
      refine ⟨m, v, it_r ?_, it_r ?_, hF, i, hR, hS, fun q => absurd q ze⟩
      · show s_SetupReader_readCustomers_2 s (nI i) m = _
        unfold s_SetupReader_readCustomers_2
        rw [if_pos (gg_8 (by omega) (by omega))]
      · show s_R_readsSetup_142 v = _
        unfold s_R_readsSetup_142
        rw [word_er (by rw [← hR.er]; exact ze), bind_s, if_pos rfl]
    | succ k ih =>
      intro i m v hik hR hS hF hx
      obtain ⟨r, s1, s2, s3⟩ := P_sees (w := 5) (w' := 30) rfl (by decide) hR
      rcases s3 with rfl | ⟨rfl, z, -⟩
      · refine ⟨m, v, it_mono (show 0 + 1 ≤ k + 1 + 1 by omega) (it_r ?_), it_mono (show 0 + 1 ≤ k + 1 + 1 by omega) (it_r ?_), hF, i, hR, hS, fun q => (hx q).2⟩
        · show s_SetupReader_readCustomers_2 s (nI i) m = _
          unfold s_SetupReader_readCustomers_2
          rw [if_neg (ng_8 (by omega)), s1, bind_s, if_pos rfl]
        · show s_R_readsSetup_142 v = _
          unfold s_R_readsSetup_142
          rw [s2, bind_s, if_pos rfl]
      · obtain ⟨hi6, hT, hF2⟩ := hx z
        obtain ⟨m', v', i1, i2, i3, i4, i5, i6⟩ := I_customer hi6 hR hS z hT hF2 s1
        obtain ⟨m2, v2, j1, j2, j3, j4⟩ := ih (i + 1) m' v' (by omega) i3 i4 (hF.tr i5) (fun q => ⟨by have := (i6 q).1; omega, (i6 q).2⟩)
        refine ⟨m2, v2, it_l i1 j1, it_l ?_ j2, j3, j4⟩
        show s_R_readsSetup_142 v = _
        unfold s_R_readsSetup_142
        rw [s2, bind_s, if_neg (by decide), i2, bind_s]
  obtain ⟨m', v', j1, j2, j3, j4⟩ := lp 9 0 μ ν rfl hR hS FLd.rf (fun q => ⟨by omega, hT q⟩)
  refine ⟨m', v', ?_, it_mono (show 9 + 1 ≤ 3000000 by omega) j2, j3, j4⟩
  unfold f_SetupReader_readCustomers
  rw [show it (fun (q : Int32 × Mem) => s_SetupReader_readCustomers_2 s q.1 q.2) LIM (0, μ) = some m' from it_mono (show 9 + 1 ≤ 3000000 by omega) j1, bind_s]
end LoadP

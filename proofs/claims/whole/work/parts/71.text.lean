/-! The text of a prophecy and of the queue: what the model writes. -/
def NX (μ : Mem) (k : Nat) (x : Int32) (t : List Nat) : Prop := ∃ c n w, x = nI c ∧ c < n ∧ n ≤ 8 ∧ μ 3 k 1 = nI n ∧ okw w ∧ μ 23 k c = nI (e5 w) ∧ t = lts w
def NB (x : Int32) (t : List Nat) : Prop := ∃ d, d ≤ 20000 ∧ x = nI d ∧ t = digs d
/-- the text of the prophecy q, as the class knows it -/
def PTX (μ : Mem) (s q : Nat) (tx : List Nat) : Prop := ∃ t1 t2 t3 t4 t5 tk, q < 24 ∧ s < 2 ∧ μ 12 0 3 = nI s ∧ NX μ (3 * s + 2) (μ 5 q 0) t1 ∧ NX μ (3 * s) (μ 5 q 2) t2 ∧ ((μ 5 q 1 = 1 ∧ t3 = [42]) ∨ (μ 5 q 1 ≠ 1 ∧ NX μ (3 * s + 1) (μ 5 q 3) t3)) ∧ NB (μ 5 q 4) t4 ∧ NB (μ 5 q 5) t5 ∧ ((μ 5 q 1 = 2 ∧ tk = [33]) ∨ (μ 5 q 1 ≠ 2 ∧ tk = [])) ∧ tx = ((((((((t1 ++ [58]) ++ tk) ++ t2) ++ [64]) ++ t3) ++ [32]) ++ t4) ++ [45]) ++ t5
theorem OUTM.fr {ν ν' : Mem} {l : List Nat} (h : OUTM ν l) (h' : outN ν ν') : OUTM ν' l := ⟨h'.2.trans h.1, fun i hi => by rw [h'.1]; exact h.2 i hi⟩
theorem FRW.k {ν v : Mem} (h : FRW ν v) : v 40 = ν 40 := h.1 40 (by omega) (by omega) (by omega)
theorem lts_len {w : List Nat} : (lts w).length = w.length := by unfold lts; rw [List.length_map]
theorem OUTM.nil {ν : Mem} (h : ν 13 0 28 = 0) : OUTM ν [] := ⟨h, fun i hi => absurd hi (Nat.not_lt_zero _)⟩
theorem GRp.out {μ ν v : Mem} {s E P C O n w t dd h L : Nat} {π : Nat → Nat} (H : GRp μ ν s E P C O n w t dd h π L) (hF : FRW ν v) : GRp μ v s E P C O n w t dd h π L :=
  H.mdl (fun K k1 k2 k3 k4 k5 k6 k7 => hF.1 K k1 k6 k7) ⟨hF.2 6 (by omega), hF.2 9 (by omega), hF.2 10 (by omega), hF.2 11 (by omega), hF.2 22 (by omega)⟩
theorem dl20 {d : Nat} (h : d ≤ 20000) : dl d ≤ 5 := dl_le.2
theorem nI_m1 {l : Nat} (h : l < 2 ^ 31) : ¬ nI l = -1 := by
  intro z
  have z2 := congrArg Int32.toInt z
  rw [nI_toInt h] at z2
  have : ((-1 : Int32)).toInt = -1 := by decide
  omega
def qtx (f : Nat → Nat) : Nat → List Nat
  | 0 => []
  | i + 1 => (qtx f i ++ (if i = 0 then [] else [44])) ++ digs (f i)
theorem dl_24 {v : Nat} (h : v < 24) : dl v ≤ 2 := by
  unfold dl
  split
  · omega
  · rw [if_pos (by omega)]; omega
theorem qtx_len {f : Nat → Nat} : ∀ {i : Nat}, (∀ k, k < i → f k < 24) → (qtx f i).length ≤ 3 * i := by
  intro i
  induction i with
  | zero => intro _; exact Nat.le_refl _
  | succ i ih =>
    intro h
    have h1 := ih (fun k hk => h k (by omega))
    show ((qtx f i ++ (if i = 0 then [] else [44])) ++ digs (f i)).length ≤ _
    rw [List.length_append, List.length_append, digs_len]
    have h2 := dl_24 (h i (by omega))
    split
    · show _ + 0 + _ ≤ _; omega
    · show _ + 1 + _ ≤ _; omega
theorem qtx_len1 {f : Nat → Nat} : ∀ {i : Nat}, (∀ k, k < i → f k < 24) → (qtx f i).length ≤ 3 * i - 1 := by
  intro i
  induction i with
  | zero => intro _; exact Nat.le_refl _
  | succ i ih =>
    intro h
    have h1 := ih (fun k hk => h k (by omega))
    show ((qtx f i ++ (if i = 0 then [] else [44])) ++ digs (f i)).length ≤ _
    rw [List.length_append, List.length_append, digs_len]
    have h2 := dl_24 (h i (by omega))
    split
    · show _ + 0 + _ ≤ _; omega
    · show _ + 1 + _ ≤ _; omega
/-- the queue's text, as the class knows it -/
def QTX (μ : Mem) (tx : List Nat) : Prop := ∃ w f, w ≤ 24 ∧ μ 9 0 8 = nI w ∧ (∀ k, k < w → f k < 24 ∧ μ 30 0 k = nI (f k)) ∧ tx = qtx f w
section Text
variable {μ ν : Mem}
theorem T_wpM (hG : GR μ ν) (x : Int32) : (f_P_prophecyWith x μ = some (.inl xIOB) ∧ ∃ ν', f_R_writeProphecy x ν = some (0, ν') ∧ ν' 13 0 7 = 1 ∧ GR μ ν' ∧ outN ν ν') ∨
    ∃ q s tx ν', f_P_prophecyWith x μ = some (.inr q) ∧ PTX μ s q tx ∧ f_R_writeProphecy x ν = some (nI tx.length, ν') ∧ ν' 13 0 7 = 0 ∧ GR μ ν' ∧ OUTM ν' tx := by
  have hG0 := hG
  obtain ⟨s, E, P, C, O, n, w, t, dd, h, π, L, H⟩ := hG
  obtain ⟨hn, -, -, -, -, -, -, s5, a10, -⟩ := H.2.2.2.1.1
  rcases ixB_c x (n := n) (by omega) with ⟨e0, -⟩ | ⟨ei, p, hp, rfl⟩
  · refine Or.inl ⟨C_pw0 s5 hn e0, st3 ν 13 0 7 1, ?_, th0, (H.th (Or.inl rfl)).gr, outN.rf.st (by omega)⟩
    unfold f_R_writeProphecy
    rw [nm_9, R_isProphecy (n := n) (by rw [st3_K (by omega)]; exact a10) (by omega), bind_s, e0, right_0 th0 (by decide), bind_s, if_pos rfl, snd_, th_th]
  · right
    have hr : rowP (μ 5 (24 * 0 + p)) (ν 40 0) (80 + 10 * p) E P C := H.2.2.2.1.2.1 p hp
    obtain ⟨hs2, hE6, hP6, hC8, hO5, ⟨sE, -⟩, ⟨sP, -⟩, ⟨sC, -⟩, -, -, -, -, -, hNe, hNp, hNc, -, -⟩ := H.2.2.1
    obtain ⟨⟨c, hc, q0, m0⟩, ⟨e, he, q2, m1⟩, hk, ⟨d1, hd1, q4, m4⟩, ⟨d2, hd2, q5, m5⟩, -⟩ := hr
    obtain ⟨⟨wc, kc, nc1, nc2⟩, -⟩ := hNc c hc
    obtain ⟨we, ke, ne1, ne2⟩ := hNe e he
    have H1 := (H.th (x := 0) (Or.inl rfl)).th (f := 28) (x := 0) (Or.inr (by omega))
    generalize hν4 : st3 (st3 ν 13 0 7 0) 13 0 28 0 = ν4 at H1
    have hz : ν4 13 0 28 = 0 := by rw [← hν4, st3_ua, ua_S]
    have h7 : ν4 13 0 7 = 0 := by rw [← hν4, st3_ua, ua_N (by omega), st3_ua, ua_S]
    have h40 : ν4 40 = ν 40 := by rw [← hν4, st3_K (by omega), st3_K (by omega)]
    have lc := kc.2.1
    have le := ke.2.1
    -- the customer's name and the colon
    obtain ⟨v1, a1, b1, c1⟩ := W_name kc (OUTM.nil hz) (by show 0 + 6 ≤ 200; omega)
    rw [List.nil_append] at b1
    obtain ⟨v2, a2, b2, c2, -⟩ := W_one (c := 58) b1 (by rw [lts_len]; omega)
    have f2 := c1.tr c2
    -- the sign of a denial
    obtain ⟨tk, v3, ltk, htk, a3, b3, f3⟩ : ∃ tk v3, tk.length ≤ 1 ∧ ((μ 5 (24 * 0 + p) 1 = 2 ∧ tk = [33]) ∨ (μ 5 (24 * 0 + p) 1 ≠ 2 ∧ tk = [])) ∧ ((if v2 40 0 (80 + 10 * p + 3) = 1 then (((f_R_writes 33 v2)).bind (fun r27 => some (r27))) else (some (v2)) : Option (Mem))) = some v3 ∧ OUTM v3 ((lts wc ++ [58]) ++ tk) ∧ FRW ν4 v3 := by
      rw [f2.k, h40]
      rcases hk with ⟨k1, -, -, k4⟩ | ⟨k1, -, k4⟩ | ⟨k1, -, k4⟩
      · exact ⟨[], v2, by simp, Or.inr ⟨by rw [k1]; decide, rfl⟩, by rw [if_neg (by rw [k4]; decide)], by rw [List.append_nil]; exact b2, f2⟩
      · exact ⟨[], v2, by simp, Or.inr ⟨by rw [k1]; decide, rfl⟩, by rw [if_neg (by rw [k4]; decide)], by rw [List.append_nil]; exact b2, f2⟩
      · obtain ⟨v3, a3, b3, c3, -⟩ := W_one (c := 33) b2 (by rw [List.length_append, lts_len]; show _ + 1 < _; omega)
        exact ⟨[33], v3, by simp, Or.inl ⟨k1, rfl⟩, by rw [if_pos k4, show (33 : Int32) = nI 33 from rfl, a3, bind_s], b3, f2.tr c3⟩
    have l3 : ((lts wc ++ [58]) ++ tk).length ≤ 8 := by
      rw [List.length_append, List.length_append, lts_len]
      show _ + 1 + _ ≤ _
      omega
    -- the event's name and the at
    obtain ⟨v4, a4, b4, c4⟩ := W_name ke b3 (by omega)
    have l4 : (((lts wc ++ [58]) ++ tk) ++ lts we).length ≤ 14 := by rw [List.length_append, lts_len]; omega
    obtain ⟨v5, a5, b5, c5, -⟩ := W_one (c := 64) b4 (by omega)
    have f5 := (f3.tr c4).tr c5
    generalize hl4 : ((lts wc ++ [58]) ++ tk) ++ lts we = l4' at *
    have l5 : (l4' ++ [64]).length ≤ 15 := by rw [List.length_append]; show _ + 1 ≤ _; omega
    -- the place
    obtain ⟨t3, v6, lt3, ht3, a6, b6, f6⟩ : ∃ t3 v6, t3.length ≤ 6 ∧ ((μ 5 (24 * 0 + p) 1 = 1 ∧ t3 = [42]) ∨ (μ 5 (24 * 0 + p) 1 ≠ 1 ∧ NX μ (3 * s + 1) (μ 5 (24 * 0 + p) 3) t3)) ∧ ((if v5 40 0 (80 + 10 * p + 2) = ((-1)) then (((f_R_writes 42 v5)).bind (fun r26 => some (r26))) else (((f_R_of (nI p) 2 v5)).bind (fun r23 => chk (inb (22 + r23) 524) (((f_R_writesName (v5 40 0 (22 + r23).toNatClampNeg) v5)).bind (fun r25 => some (r25))))) : Option (Mem))) = some v6 ∧ OUTM v6 ((l4' ++ [64]) ++ t3) ∧ FRW ν4 v6 := by
      have kP : ∀ l, l < P → v5 40 0 (80 + 10 * p + 2) = nI l → ∃ t3 v6, t3.length ≤ 6 ∧ NX μ (3 * s + 1) (nI l) t3 ∧ ((if v5 40 0 (80 + 10 * p + 2) = ((-1)) then (((f_R_writes 42 v5)).bind (fun r26 => some (r26))) else (((f_R_of (nI p) 2 v5)).bind (fun r23 => chk (inb (22 + r23) 524) (((f_R_writesName (v5 40 0 (22 + r23).toNatClampNeg) v5)).bind (fun r25 => some (r25))))) : Option (Mem))) = some v6 ∧ OUTM v6 ((l4' ++ [64]) ++ t3) ∧ FRW ν4 v6 := by
        intro l hl hv
        obtain ⟨wp, kp, np1, np2⟩ := hNp l hl
        obtain ⟨v6, a6, b6, c6⟩ := W_name kp b5 (by omega)
        refine ⟨lts wp, v6, by rw [lts_len]; exact kp.2.1, ⟨l, P, wp, rfl, hl, by omega, sP, kp, np1, rfl⟩, ?_, b6, f5.tr c6⟩
        rw [R_of2 (by omega), bind_s, hv, if_neg (nI_m1 (by omega)), show (22 : Int32) = nI 22 from rfl, nI_add, chk_of (inb_of (by omega) (by omega)), nI_clamp (by omega), f5.k, h40, np2, a6, bind_s]
      rcases hk with ⟨k1, -, k3, -⟩ | ⟨k1, ⟨l, hl, k2, k3⟩, -⟩ | ⟨k1, ⟨l, hl, k2, k3⟩, -⟩
      · obtain ⟨v6, a6, b6, c6, -⟩ := W_one (c := 42) b5 (by omega)
        exact ⟨[42], v6, by simp, Or.inl ⟨k1, rfl⟩, by rw [if_pos (by rw [f5.k, h40]; exact k3), show (42 : Int32) = nI 42 from rfl, a6, bind_s], b6, f5.tr c6⟩
      · obtain ⟨t3, v6, z1, z2, z3⟩ := kP l hl (by rw [f5.k, h40]; exact k3)
        exact ⟨t3, v6, z1, Or.inr ⟨by rw [k1]; decide, by rw [k2]; exact z2⟩, z3⟩
      · obtain ⟨t3, v6, z1, z2, z3⟩ := kP l hl (by rw [f5.k, h40]; exact k3)
        exact ⟨t3, v6, z1, Or.inr ⟨by rw [k1]; decide, by rw [k2]; exact z2⟩, z3⟩
    have l6 : ((l4' ++ [64]) ++ t3).length ≤ 21 := by rw [List.length_append]; omega
    generalize hl6 : (l4' ++ [64]) ++ t3 = l6' at *
    -- the days
    obtain ⟨v7, a7, b7, c7, -⟩ := W_one (c := 32) b6 (by omega)
    have f7 := f6.tr c7
    have l7 : (l6' ++ [32]).length ≤ 22 := by rw [List.length_append]; show _ + 1 ≤ _; omega
    obtain ⟨v8, a8, b8, c8⟩ := W_num (v := d1) (by omega) b7 (by omega)
    have l8 : ((l6' ++ [32]) ++ digs d1).length ≤ 27 := by rw [List.length_append, digs_len]; have := dl20 hd1; omega
    obtain ⟨v9, a9, b9, c9, -⟩ := W_one (c := 45) b8 (by omega)
    have f9 := (f7.tr c8).tr c9
    have l9 : (((l6' ++ [32]) ++ digs d1) ++ [45]).length ≤ 28 := by rw [List.length_append]; show _ + 1 ≤ _; omega
    obtain ⟨v10, a10', b10, c10⟩ := W_num (v := d2) (by omega) b9 (by omega)
    have f10 := f9.tr c10
    refine ⟨24 * 0 + p, s, (((l6' ++ [32]) ++ digs d1) ++ [45]) ++ digs d2, v10, C_pw1 s5 hn hp, ⟨lts wc, lts we, t3, digs d1, digs d2, tk, by omega, hs2, H.1.1, ⟨c, C, wc, q0, hc, hC8, sC, kc, nc1, rfl⟩, ⟨e, E, we, q2, he, by omega, sE, ke, ne1, rfl⟩, ht3, ⟨d1, hd1, q4, rfl⟩, ⟨d2, hd2, q5, rfl⟩, htk, by rw [← hl6, ← hl4]⟩, ?_, (f10.2 7 (by omega)).trans h7, (H1.out f10).gr, b10⟩
    rw [R_of2 (by omega)] at a6
    unfold f_R_writeProphecy
    rw [nm_9, R_isProphecy (n := n) (by rw [st3_K (by omega)]; exact a10) (by omega), bind_s, ixB_in (by omega) hp, right_1 th0, bind_s, if_neg n1_, snd_, nm_9, hν4, R_of0 (by omega), bind_s, h40, m0, R_ofCustomer0 (by omega), bind_s, h40, nc2, a1, bind_s, show (58 : Int32) = nI 58 from rfl, a2, bind_s, R_of3 (by omega), bind_s, a3, bind_s, R_of1 (by omega), bind_s, f3.k, h40, m1, show (16 : Int32) = nI 16 from rfl, nI_add, chk_of (inb_of (by omega) (by omega)), nI_clamp (by omega), ne2, a4, bind_s, show (64 : Int32) = nI 64 from rfl, a5, bind_s, R_of2 (by omega), bind_s, a6, bind_s, show (32 : Int32) = nI 32 from rfl, a7, bind_s, R_of4 (by omega), bind_s, f7.k, h40, m4, a8, bind_s, show (45 : Int32) = nI 45 from rfl, a9, bind_s, R_of5 (by omega), bind_s, f9.k, h40, m5, a10', bind_s, b10.1]
theorem T_wqM (hG : GR μ ν) : ∃ tx ν', QTX μ tx ∧ f_R_writeQueue ν = some (nI tx.length, ν') ∧ ν' 13 0 7 = 0 ∧ GR μ ν' ∧ OUTM ν' tx := by
  obtain ⟨s, E, P, C, O, n, w, t, dd, h, π, L, H⟩ := hG
  obtain ⟨hn, hw, -, -, -, -, -, s5, a10, s8, a12, -⟩ := H.2.2.2.1.1
  have hq := H.2.2.2.1.2.2.2.2.1.1
  have H1 := (H.th (x := 0) (Or.inl rfl)).th (f := 28) (x := 0) (Or.inr (by omega))
  generalize hν4 : st3 (st3 ν 13 0 7 0) 13 0 28 0 = ν4 at H1
  have hz : ν4 13 0 28 = 0 := by rw [← hν4, st3_ua, ua_S]
  have h7 : ν4 13 0 7 = 0 := by rw [← hν4, st3_ua, ua_N (by omega), st3_ua, ua_S]
  have h40 : ν4 40 = ν 40 := by rw [← hν4, st3_K (by omega), st3_K (by omega)]
  have hf : ∃ f : Nat → Nat, ∀ k, k < w → f k < n ∧ ν 40 0 (500 + k) = nI (f k) := by
    refine ⟨fun k => (ν 40 0 (500 + k)).toNatClampNeg, fun k hk => ?_⟩
    obtain ⟨-, v, h1, h2⟩ := hq k hk
    show (ν 40 0 (500 + k)).toNatClampNeg < n ∧ _ = nI (ν 40 0 (500 + k)).toNatClampNeg
    rw [h2, nI_clamp (by omega)]
    exact ⟨h1, rfl⟩
  obtain ⟨f, hf⟩ := hf
  have hf2 : ∀ k, k < w → f k < 24 := fun k hk => by have := (hf k hk).1; omega
  have key : ∃ v, it (fun (s : Int32 × Mem) => s_R_writeQueue_12 s.1 s.2) LIM (0, ν4) = some v ∧ OUTM v (qtx f w) ∧ FRW ν4 v := by
    refine it_for (fun i (q : Int32 × Mem) => q.1 = nI i ∧ OUTM q.2 (qtx f i) ∧ FRW ν4 q.2) (fun v => OUTM v (qtx f w) ∧ FRW ν4 v) w 0 (by omega) (by omega) ⟨rfl, OUTM.nil hz, FRW.rf⟩ (fun i hi q hq => ?_) (fun q hq => ?_)
    · obtain ⟨q1, q2, q3⟩ := hq
      obtain ⟨x, m⟩ := q
      replace q1 : x = nI i := q1
      subst q1
      have hlen : (qtx f i).length ≤ 3 * i := qtx_len (fun k hk => hf2 k (by omega))
      obtain ⟨v2, a2, b2, c2⟩ : ∃ v2, ((if nI i ≤ 0 then (some (m)) else (((f_R_writes 44 m)).bind (fun r5 => some (r5))) : Option (Mem))) = some v2 ∧ OUTM v2 (qtx f i ++ (if i = 0 then [] else [44])) ∧ FRW ν4 v2 := by
        by_cases e : i = 0
        · subst e
          exact ⟨m, by rw [if_pos (by decide)], by rw [if_pos rfl, List.append_nil]; exact q2, q3⟩
        · obtain ⟨v2, a2, b2, c2, -⟩ := W_one (c := 44) q2 (by omega)
          exact ⟨v2, by rw [if_neg (show ¬ nI i ≤ 0 from nI_ge (a := 0) (by omega) (by omega)), show (44 : Int32) = nI 44 from rfl, a2, bind_s], by rw [if_neg e]; exact b2, q3.tr c2⟩
      have hl2 : (qtx f i ++ (if i = 0 then [] else [44])).length ≤ 3 * i + 1 := by
        rw [List.length_append]
        split
        · show _ + 0 ≤ _; omega
        · show _ + 1 ≤ _; omega
      obtain ⟨v3, a3, b3, c3⟩ := W_num (v := f i) (by have := hf2 i hi; omega) b2 (by omega)
      refine ⟨(nI (i + 1), v3), ?_, rfl, b3, c2.tr c3⟩
      show s_R_writeQueue_12 (nI i) m = _
      unfold s_R_writeQueue_12
      rw [chk_of (by decide), show ((12 : Int32).toNatClampNeg) = 12 by decide, show m 40 = ν4 40 from q3.k, h40, a12, if_neg (nI_ge (by omega) (by omega)), a2, bind_s, show (500 : Int32) = nI 500 from rfl, nI_add, chk_of (inb_of (by omega) (by omega)), nI_clamp (by omega), c2.k, h40, (hf i hi).2, a3, bind_s, nI_1]
    · obtain ⟨q1, q2, q3⟩ := hq
      obtain ⟨x, m⟩ := q
      replace q1 : x = nI w := q1
      subst q1
      refine ⟨m, ?_, q2, q3⟩
      show s_R_writeQueue_12 (nI w) m = _
      unfold s_R_writeQueue_12
      rw [chk_of (by decide), show ((12 : Int32).toNatClampNeg) = 12 by decide, show m 40 = ν4 40 from q3.k, h40, a12, if_pos (nI_le (Nat.le_refl _) (by omega))]
  obtain ⟨v, a, b, c⟩ := key
  refine ⟨qtx f w, v, ⟨w, f, hw, s8, fun k hk => ⟨hf2 k hk, (hq k hk).1.trans (hf k hk).2⟩, rfl⟩, ?_, (c.2 7 (by omega)).trans h7, (H1.out c).gr, b⟩
  unfold f_R_writeQueue
  rw [nm_9, nm_9, hν4, a, bind_s, b.1]
theorem T_obM (hG : GR μ ν) {l : List Nat} (hO : OUTM ν l) (hl : l.length ≤ 71) (x : Int32) : ∃ r, (f_R_outputByte x ν = some (r, st3 ν 13 0 7 0)) ∧ ((ixB x l.length = 0 ∧ r = -1) ∨ ∃ i, i < l.length ∧ x = nI i ∧ r = nI (l.getD i 0)) := by
  have e : f_R_in x 0 ((st3 ν 13 0 7 0) 13 0 28 - 1) (st3 ν 13 0 7 0) = some (ixB x l.length) := by
    rw [st3_ua, ua_N (by omega), hO.1]
    exact in_ix x (by omega) _
  rcases ixB_c x (n := l.length) (by omega) with ⟨e0, -⟩ | ⟨ei, i, hi, rfl⟩
  · refine ⟨-1, ?_, Or.inl ⟨e0, rfl⟩⟩
    unfold f_R_outputByte
    rw [nm_9, e, bind_s, if_pos e0]
  · refine ⟨nI (l.getD i 0), ?_, Or.inr ⟨i, hi, rfl, rfl⟩⟩
    unfold f_R_outputByte
    rw [nm_9, e, bind_s, if_neg (by rw [ei]; decide), chk_of (inb_of (by omega) (by omega)), nI_clamp (by omega), st3_K (by omega), hO.2 i hi]
end Text

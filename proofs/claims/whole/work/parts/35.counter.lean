/-! The counter handles a request, in the class and in the model. -/
theorem FrC.sh {j m : Nat} {μ μ' : Mem} (h : FrC j μ μ') : FrC j μ (shM μ' 30 j 0 m) := by
  refine ⟨fun K i q => ?_, ?_⟩
  · by_cases e : K = 30
    · subst e
      by_cases e2 : i = j
      · subst e2; exact absurd (Or.inl ⟨Or.inr (by omega), rfl⟩) q
      · rw [shM_J e2]; exact h.1 _ _ q
    · rw [shM_K e]; exact h.1 _ _ q
  · rw [shM_K (by omega)]; exact h.2
theorem FrN.sh {m : Nat} {ν ν' : Mem} (h : FrN ν ν') : FrN ν (shM ν' 40 0 500 m) := by
  refine ⟨fun K q => by rw [shM_K q]; exact h.1 K q, fun k q => ?_⟩
  rw [shM_S, shf_out (by unfold dynI at q; omega)]
  exact h.2 k q
theorem rowP.ans {q a : Nat → Int32} {b E P C : Nat} {v : Int32} (h : rowP q a b E P C) : rowP (ua q 9 v) (ua a (b + 9) v) b E P C := by
  obtain ⟨h1, h2, h3, h4, h5, h6, h7, h8, h9, h10⟩ := h
  have qa : ∀ f, f ≠ 9 → ua q 9 v f = q f := fun f e1 => ua_N e1
  have aa : ∀ f, f ≠ 9 → ua a (b + 9) v (b + f) = a (b + f) := fun f e1 => ua_N (by omega)
  unfold rowP
  rw [qa 0 (by omega), qa 1 (by omega), qa 2 (by omega), qa 3 (by omega), qa 4 (by omega), qa 5 (by omega), qa 6 (by omega), qa 7 (by omega), qa 8 (by omega),
    aa 0 (by omega), aa 1 (by omega), aa 2 (by omega), aa 3 (by omega), aa 4 (by omega), aa 5 (by omega), aa 6 (by omega), aa 7 (by omega), aa 8 (by omega), ua_S, ua_S]
  exact ⟨h1, h2, h3, h4, h5, h6, h7, h8, h9, rfl⟩
theorem rowP.paid {q a : Nat → Int32} {b E P C : Nat} (h : rowP q a b E P C) (h0 : a (b + 7) ≠ 0) : rowP (ua q 7 3) (ua a (b + 7) 3) b E P C := by
  obtain ⟨h1, h2, h3, h4, h5, h6, h7, h8, h9, h10⟩ := h
  have qa : ∀ f, f ≠ 7 → ua q 7 3 f = q f := fun f e1 => ua_N e1
  have aa : ∀ f, f ≠ 7 → ua a (b + 7) 3 (b + f) = a (b + f) := fun f e1 => ua_N (by omega)
  unfold rowP
  rw [qa 0 (by omega), qa 1 (by omega), qa 2 (by omega), qa 3 (by omega), qa 4 (by omega), qa 5 (by omega), qa 6 (by omega), qa 9 (by omega), qa 8 (by omega),
    aa 0 (by omega), aa 1 (by omega), aa 2 (by omega), aa 3 (by omega), aa 4 (by omega), aa 5 (by omega), aa 6 (by omega), aa 9 (by omega), aa 8 (by omega), ua_S, ua_S]
  exact ⟨h1, h2, h3, h4, h5, h6, rfl, Or.inr (Or.inr (Or.inr rfl)), fun _ => h9 h0, h10⟩
theorem ansr_1 {a : Nat → Int32} {b : Nat} (h : ansr a b = 1) : a (b + 7) ≠ 0 := by
  intro z
  unfold ansr at h
  rw [if_pos z] at h
  exact absurd h (by decide)
theorem dyn_q {k : Nat} (h : k = 0 ∨ k = 5 ∨ (10 ≤ k ∧ k ≤ 14)) : dynI k := by unfold dynI; omega
section Counter
variable {μ ν : Mem} {j s E P C O n w t dd : Nat}
theorem L_handle (hj : j < 12) (h0 : μ 9 j 0 = nI s) (hT : ST μ s (ν 40 0) E P C O) (H : SH μ j (ν 40 0) E P C O n w t dd) :
    (f_Shop_handleFirstRequest j μ = some (0, μ) ∧ f_R_handles ν = some (0, ν)) ∨
    ∃ m v w', f_Shop_handleFirstRequest j μ = some (1, m) ∧ f_R_handles ν = some (1, v) ∧ SH (st3 m 9 j 13 (m 9 j 13 + 1)) j (v 40 0) E P C O n w' t dd ∧ FrC j μ (st3 m 9 j 13 (m 9 j 13 + 1)) ∧ FrN ν v := by
  have hT0 := hT
  obtain ⟨hs, hE, hP, hC, hO, -, -, ⟨t3, -⟩, ⟨t7, t9⟩, -, -, -, -, -, -, tc, to, -⟩ := hT
  have H0 := H
  obtain ⟨hs9, hpr, how, hpu, hqu, hno⟩ := H
  have hs8 := hs9
  obtain ⟨hn, hw, ht, hdd, s1, a5, s2, s5, a10, s8, a12, s12, a11, s13, s14⟩ := hs9
  cases w with
  | zero =>
    left
    constructor
    · unfold f_Shop_handleFirstRequest f_Shop_requestAt
      rw [s8, if_neg (by decide), if_pos (by decide), bind_s, C_hasSold s5 hn, bind_s, if_pos]
      unfold ixB
      rw [if_pos (Or.inl (by decide))]
    · unfold f_R_handles
      rw [ib_12_524, chk_t, tn_12, a12, if_pos nI_0]
  | succ w =>
    obtain ⟨hq0, p, hp, hap⟩ := hqu.1 0 (by omega)
    rw [Nat.add_zero] at hq0 hap
    have eA : f_Shop_requestAt j 0 μ = some (nI p) := by
      unfold f_Shop_requestAt
      rw [s8, if_neg (by decide), if_neg (le_0 (by omega) (by omega)), if_neg (by decide), ib_0_24, chk_t, tn_0, hq0, hap]
    have hrow := hpr p hp
    have eB := C_answerTo (q := 24 * j + p) (b := 80 + 10 * p) h0 hT0 hrow hs8
    have eC : f_Shop_handleFirstRequest j μ = (if ansr (ν 40 0) (80 + 10 * p) = 1 then (f_Shop_firstIdleOwl j μ).bind (fun r8 => if r8 = (-1) then some (0, μ) else (f_Shop_pay j (24 * j + p) r8 μ).bind (fun r9 => nm (st3 r9 5 (24 * j + p) 9 1) (fun μ10 => (f_Shop_removeFirstRequest j μ10).bind (fun r11 => some (1, r11))))) else nm (st3 μ 5 (24 * j + p) 9 (ansr (ν 40 0) (80 + 10 * p))) (fun μ6 => (f_Shop_removeFirstRequest j μ6).bind (fun r7 => some (1, r7)))) := by
      unfold f_Shop_handleFirstRequest
      rw [eA, bind_s, C_hasSold s5 hn, ixB_in (by omega) hp, bind_s, if_neg (by decide), C_prophecyWith s5 hn hp, bind_s, chk_of (decide_eq_true (by omega)), eB, bind_s]
      split
      · rename_i e; rw [e]
      · rfl
    have eD : ∀ x : Int32, (f_R_puts (nI p) 9 x ν) = some (st3 ν 40 0 (80 + 10 * p + 9) x) := fun x => R_puts9 (by omega)
    -- the model behind the shift
    have eE : ∀ x : Int32, ∃ Y : Mem, Y = shM (st3 (st3 (st3 ν 40 0 (80 + 10 * p + 9) x) 40 0 12 (nI w)) 40 0 13 (ν 40 0 13 + 1)) 40 0 500 w ∧ (∀ k, k < 500 → k ≠ 12 → k ≠ 13 → k ≠ 80 + 10 * p + 9 → Y 40 0 k = ν 40 0 k) ∧ FrN ν Y := by
      intro x
      refine ⟨_, rfl, fun k k1 k2 k3 k4 => ?_, ((((FrN.rf.st (dyn_row (by omega))).st (dyn_q (by omega))).st (dyn_q (by omega))).sh)⟩
      rw [shM_S, shf_out (by omega), st3_ua, ua_N k3, st3_ua, ua_N k2, st3_ua, ua_N k4]
    have eF : f_R_handles ν = (if ansr (ν 40 0) (80 + 10 * p) = 1 then (f_R_idle ν).bind (fun r14 => if r14 = (-1) then some (0, ν) else (f_R_flies (nI p) (shM (st3 (st3 (st3 ν 40 0 (80 + 10 * p + 9) 1) 40 0 12 (nI w)) 40 0 13 (ν 40 0 13 + 1)) 40 0 500 w)).bind (fun r23 => some (1, r23))) else some (1, shM (st3 (st3 (st3 ν 40 0 (80 + 10 * p + 9) (ansr (ν 40 0) (80 + 10 * p))) 40 0 12 (nI w)) 40 0 13 (ν 40 0 13 + 1)) 40 0 500 w)) := by
      have sh : ∀ (x v3 r4 : Int32), it (fun s : Int32 × Mem => s_R_handles_74 v3 r4 s.1 s.2) LIM (0, st3 (st3 (st3 ν 40 0 (80 + 10 * p + 9) x) 40 0 12 (nI w)) 40 0 13 (ν 40 0 13 + 1)) = some (shM (st3 (st3 (st3 ν 40 0 (80 + 10 * p + 9) x) 40 0 12 (nI w)) 40 0 13 (ν 40 0 13 + 1)) 40 0 500 w) :=
        fun x v3 r4 => R_shift v3 r4 (by rw [st3_ua, ua_N (by omega), st3_ua, ua_S]) (by omega)
      have m1 : ∀ x : Int32, (st3 ν 40 0 (80 + 10 * p + 9) x) 40 0 12 - 1 = nI w := fun x => by rw [st3_ua, ua_N (by omega), a12, nI_pred]
      have m2 : ∀ x : Int32, (st3 (st3 ν 40 0 (80 + 10 * p + 9) x) 40 0 12 (nI w)) 40 0 13 = ν 40 0 13 := fun x => by rw [st3_ua, ua_N (by omega), st3_ua, ua_N (by omega)]
      unfold f_R_handles
      rw [ib_12_524, chk_t, tn_12, a12, if_neg (ne_0 (by omega) (by omega)), ib_500_524, chk_t, tn_500, nm_9, hap, R_wouldAnswer (by omega), bind_s]
      by_cases c1 : ansr (ν 40 0) (80 + 10 * p) = 1
      · rw [if_pos c1, if_pos c1, c1]
        congr 1
        funext r14
        split
        · rfl
        · rw [eD, bind_s, chk_t, chk_t, nm_9, m1, ib_13_524, chk_t, chk_t, tn_13, nm_9, m2, sh, bind_s, if_pos rfl]
      · rw [if_neg c1, if_neg c1, eD, bind_s, chk_t, chk_t, nm_9, m1, ib_13_524, chk_t, chk_t, tn_13, nm_9, m2, sh, bind_s, if_neg c1]
    rw [eC, eF]
    by_cases c1 : ansr (ν 40 0) (80 + 10 * p) = 1
    · rw [if_pos c1, if_pos c1, C_firstIdleOwl h0 hT0 how hj, bind_s, R_idle t9 hO, bind_s]
      rcases fdI_sp (P := fun o => decide (ν 40 0 (52 + 5 * o + 1) = 0)) (n := O) (i := 0) with ⟨e1, -⟩ | ⟨o, -, ho, -, e1, -⟩
      · left
        rw [show idl (ν 40 0) O = -1 from e1, if_pos rfl]
        exact ⟨rfl, rfl⟩
      · right
        rw [Nat.zero_add] at ho
        rw [show idl (ν 40 0) O = nI o from e1, if_neg (ne_m1 (by omega)), if_neg (ne_m1 (by omega))]
        obtain ⟨c, hc, q0, b0⟩ := hrow.1
        replace q0 : μ 5 (24 * j + p) 0 = nI c := q0
        obtain ⟨-, d, hd1, hd2, td, ad⟩ := tc c hc
        obtain ⟨v, hv1, hv2, tv, av⟩ := to o ho
        obtain ⟨Y, hY, AY, FY⟩ := eE 1
        have hIY : f_R_idle Y = some (nI o) := by
          rw [R_idle (ν := Y) (by rw [AY 9 (by omega) (by omega) (by omega) (by omega)]; exact t9) hO, ← e1]
          unfold idl
          rw [fdI_congr (fun k _ hk => by rw [AY _ (by omega) (by omega) (by omega) (by omega)])]
        have hrY : rfd (Y 40 0) (80 + 10 * p) = rfd (ν 40 0) (80 + 10 * p) := by
          unfold rfd
          rw [AY _ (by omega) (by omega) (by omega) (by omega), AY _ (by omega) (by omega) (by omega) (by omega), AY 4 (by omega) (by omega) (by omega) (by omega), AY 3 (by omega) (by omega) (by omega) (by omega)]
        have hfl := R_flies (ν := Y) (p := p) (o := o) (c := c) (d := d) (v := v) (by omega) (by omega) hIY (by omega) (by rw [AY _ (by omega) (by omega) (by omega) (by omega)]; exact b0) (by rw [AY _ (by omega) (by omega) (by omega) (by omega)]; exact ad) hd2 (by rw [AY _ (by omega) (by omega) (by omega) (by omega)]; exact av) hv1 hv2
        rw [hrY, AY 0 (by omega) (by omega) (by omega) (by omega), AY 14 (by omega) (by omega) (by omega) (by omega)] at hfl
        have hpy := C_pay (q := 24 * j + p) (b := 0) hj h0 hs (C_refundFor h0 hT0 hrow) hO hC t7 t3 ho hc q0 td hd2 tv hv1 hv2
        rw [s2, s14] at hpy
        have hT9 : (d + v - 1) / v ≤ 60 := Nat.le_trans (Nat.div_le_self _ _) (by omega)
        generalize (d + v - 1) / v = T at hfl hpy hT9
        generalize hr9 : rfd (ν 40 0) (80 + 10 * p) = r at hfl hpy
        rw [hpy, bind_s, nm_9, ← hY, hfl, bind_s]
        -- the steps
        have H1 : SH (st3 (st3 μ 9 j 2 (ν 40 0 0 - r)) 9 j 14 (ν 40 0 14 + r)) j (ua (ua (ν 40 0) 0 (ν 40 0 0 - r)) 14 (ν 40 0 14 + r)) E P C O n (w + 1) t dd :=
          H0.setS hC hO (fun K hK => by rw [st3_K hK, st3_K hK]) (fun k hk => by rw [ua_N (by omega), ua_N (by omega)]) (by rw [st3_two]; exact Ss_paid (Ss_cash hs8))
        have H2 := H1.setP (μ' := st3 (st3 (st3 μ 9 j 2 (ν 40 0 0 - r)) 9 j 14 (ν 40 0 14 + r)) 5 (24 * j + p) 7 3) (a' := ua (ua (ua (ν 40 0) 0 (ν 40 0 0 - r)) 14 (ν 40 0 14 + r)) (80 + 10 * p + 7) 3) p hp hC hO (fun K hK => by rw [st3_K hK]) (fun i hi => by rw [st3_J (by omega)]) (fun k hk => ua_N (by omega))
          (by rw [st3_ua]; exact (H1.2.1 p hp).paid (by rw [ua_N (by omega), ua_N (by omega)]; exact ansr_1 c1))
        generalize hm2 : st3 (st3 (st3 μ 9 j 2 (ν 40 0 0 - r)) 9 j 14 (ν 40 0 14 + r)) 5 (24 * j + p) 7 3 = m2 at H2 ⊢
        generalize ha2 : ua (ua (ua (ν 40 0) 0 (ν 40 0 0 - r)) 14 (ν 40 0 14 + r)) (80 + 10 * p + 7) 3 = a2 at H2
        have H3 := H2.setO (μ' := st3 (st3 (st3 (st3 (st3 m2 4 (5 * j + o) 2 (nI c)) 4 (5 * j + o) 1 r) 4 (5 * j + o) 3 (nI T)) 4 (5 * j + o) 0 (nI T)) 4 (5 * j + o) 4 1) (a' := ua (ua (ua (ua a2 (52 + 5 * o + 1) (nI T)) (52 + 5 * o + 4) (nI T)) (52 + 5 * o + 2) r) (52 + 5 * o + 3) (nI c)) o ho hC hO
          (fun K hK => by rw [st3_K hK, st3_K hK, st3_K hK, st3_K hK, st3_K hK]) (fun i hi => by rw [st3_J (by omega), st3_J (by omega), st3_J (by omega), st3_J (by omega), st3_J (by omega)]) (fun k hk => by rw [ua_N (by omega), ua_N (by omega), ua_N (by omega), ua_N (by omega)])
          (by
            rw [st3_ua, st3_ua, st3_ua, st3_ua, st3_ua]
            refine ⟨⟨T, hT9, ?_, ?_⟩, ?_, Or.inl ⟨?_, ⟨c, hc, ?_, ?_⟩, T, hT9, ?_, ?_⟩⟩
            · rw [ua_N (by omega), ua_S]
            · rw [ua_N (by omega), ua_N (by omega), ua_N (by omega), ua_S]
            · rw [ua_N (by omega), ua_N (by omega), ua_N (by omega), ua_S, ua_N (by omega), ua_S]
            · rw [ua_S]
            · rw [ua_N (by omega), ua_N (by omega), ua_N (by omega), ua_N (by omega), ua_S]
            · rw [ua_S]
            · rw [ua_N (by omega), ua_N (by omega), ua_S]
            · rw [ua_N (by omega), ua_N (by omega), ua_S])
        generalize hm3 : st3 (st3 (st3 (st3 (st3 m2 4 (5 * j + o) 2 (nI c)) 4 (5 * j + o) 1 r) 4 (5 * j + o) 3 (nI T)) 4 (5 * j + o) 0 (nI T)) 4 (5 * j + o) 4 1 = m3 at H3 ⊢
        generalize ha3 : ua (ua (ua (ua a2 (52 + 5 * o + 1) (nI T)) (52 + 5 * o + 4) (nI T)) (52 + 5 * o + 2) r) (52 + 5 * o + 3) (nI c) = a3 at H3
        have F3 : FrC j μ m3 := by
          rw [← hm3, ← hm2]
          exact (((((((FrC.rf.st9 (by omega)).st9 (by omega)).st5 (by omega)).st4 (by omega)).st4 (by omega)).st4 (by omega)).st4 (by omega)).st4 (by omega)
        have H4 := H3.setP (μ' := st3 m3 5 (24 * j + p) 9 1) (a' := ua a3 (80 + 10 * p + 9) 1) p hp hC hO (fun K hK => by rw [st3_K hK]) (fun i hi => by rw [st3_J (by omega)]) (fun k hk => ua_N (by omega)) (by rw [st3_ua]; exact (H3.2.1 p hp).ans)
        rw [C_remove (w := w) (by obtain ⟨-, -, -, -, -, -, -, -, -, z, -⟩ := H4.1; exact z) (by omega), bind_s]
        refine ⟨_, _, w, rfl, rfl, ?_, ?_, ?_⟩
        · have H5 := SH_rem H4 hC hO
          have H6 := H5.setS (μ' := st3 (st3 (shM (st3 m3 5 (24 * j + p) 9 1) 30 j 0 w) 9 j 8 (nI w)) 9 j 13 ((st3 (shM (st3 m3 5 (24 * j + p) 9 1) 30 j 0 w) 9 j 8 (nI w)) 9 j 13 + 1)) (a' := ua (ua (shf (ua a3 (80 + 10 * p + 9) 1) 500 w) 12 (nI w)) 13 ((st3 (shM (st3 m3 5 (24 * j + p) 9 1) 30 j 0 w) 9 j 8 (nI w)) 9 j 13 + 1)) hC hO (fun K hK => by rw [st3_K hK]) (fun k hk => ua_N (by omega)) (by rw [st3_ua]; exact Ss_hand H5.1)
          refine H6.cong ⟨rfl, fun _ _ => rfl, fun _ _ => rfl, rfl, rfl, rfl, rfl, rfl⟩ (fun k hk => ?_) hC hO
          have e13 : (st3 (shM (st3 m3 5 (24 * j + p) 9 1) 30 j 0 w) 9 j 8 (nI w)) 9 j 13 = ν 40 0 13 := by
            rw [st3_ua, ua_N (by omega), shM_K (by omega), st3_K (by omega), ← hm3, st3_K (by omega), st3_K (by omega), st3_K (by omega), st3_K (by omega), st3_K (by omega), ← hm2, st3_K (by omega), st3_ua, ua_N (by omega), st3_ua, ua_N (by omega)]
            exact s13
          rw [e13, st3_ua, st3_ua, st3_ua, st3_ua, st3_ua, st3_ua, st3_ua, hY, shM_S, st3_ua, st3_ua, st3_ua, ← ha3, ← ha2]
          simp only [ua, shf]
          by_cases h1 : k = 80 + 10 * p + 7
          · repeat (first | rw [if_pos (by omega)] | rw [if_neg (by omega)])
          by_cases h2 : k = 14
          · repeat (first | rw [if_pos (by omega)] | rw [if_neg (by omega)])
          by_cases h3 : k = 0
          · repeat (first | rw [if_pos (by omega)] | rw [if_neg (by omega)])
          by_cases h4 : k = 52 + 5 * o + 3
          · repeat (first | rw [if_pos (by omega)] | rw [if_neg (by omega)])
          by_cases h5 : k = 52 + 5 * o + 2
          · repeat (first | rw [if_pos (by omega)] | rw [if_neg (by omega)])
          by_cases h6 : k = 52 + 5 * o + 4
          · repeat (first | rw [if_pos (by omega)] | rw [if_neg (by omega)])
          by_cases h7 : k = 52 + 5 * o + 1
          · repeat (first | rw [if_pos (by omega)] | rw [if_neg (by omega)])
          by_cases h8 : k = 13
          · repeat (first | rw [if_pos (by omega)] | rw [if_neg (by omega)])
          by_cases h9 : k = 12
          · repeat (first | rw [if_pos (by omega)] | rw [if_neg (by omega)])
          by_cases h10 : k = 80 + 10 * p + 9
          · repeat (first | rw [if_pos (by omega)] | rw [if_neg (by omega)])
          by_cases h99 : 500 ≤ k ∧ k < 500 + w
          · repeat (first | rw [if_pos (by omega)] | rw [if_neg (by omega)])
          · repeat (first | rw [if_pos (by omega)] | rw [if_neg (by omega)])
        · exact (((F3.st5 (by omega)).sh).st9 (by omega)).st9 (by omega)
        · exact ((((((FY.st (dyn_owl (by omega) (by omega) (by omega))).st (dyn_owl (by omega) (by omega) (by omega))).st (dyn_owl (by omega) (by omega) (by omega))).st (dyn_owl (by omega) (by omega) (by omega))).st (dyn_q (by omega))).st (dyn_q (by omega))).st (dyn_row (by omega))
    · right
      rw [if_neg c1, if_neg c1]
      obtain ⟨Y, hY, AY, FY⟩ := eE (ansr (ν 40 0) (80 + 10 * p))
      rw [← hY, nm_9, C_remove (w := w) (by rw [st3_K (by omega)]; exact s8) (by omega), bind_s]
      refine ⟨_, _, w, rfl, rfl, ?_, ?_, FY⟩
      · have H1 : SH (st3 μ 5 (24 * j + p) 9 (ansr (ν 40 0) (80 + 10 * p))) j (ua (ν 40 0) (80 + 10 * p + 9) (ansr (ν 40 0) (80 + 10 * p))) E P C O n (w + 1) t dd :=
          H0.setP p hp hC hO (fun K hK => by rw [st3_K hK]) (fun i hi => by rw [st3_J (by omega)]) (fun k hk => ua_N (by omega)) (by rw [st3_ua]; exact hrow.ans)
        have H2 := SH_rem H1 hC hO
        have H3 := H2.setS (μ' := st3 (st3 (shM (st3 μ 5 (24 * j + p) 9 (ansr (ν 40 0) (80 + 10 * p))) 30 j 0 w) 9 j 8 (nI w)) 9 j 13 ((st3 (shM (st3 μ 5 (24 * j + p) 9 (ansr (ν 40 0) (80 + 10 * p))) 30 j 0 w) 9 j 8 (nI w)) 9 j 13 + 1))
          (a' := ua (ua (shf (ua (ν 40 0) (80 + 10 * p + 9) (ansr (ν 40 0) (80 + 10 * p))) 500 w) 12 (nI w)) 13 ((st3 (shM (st3 μ 5 (24 * j + p) 9 (ansr (ν 40 0) (80 + 10 * p))) 30 j 0 w) 9 j 8 (nI w)) 9 j 13 + 1)) hC hO (fun K hK => by rw [st3_K hK]) (fun k hk => ua_N (by omega)) (by rw [st3_ua]; exact Ss_hand H2.1)
        refine H3.cong ⟨rfl, fun _ _ => rfl, fun _ _ => rfl, rfl, rfl, rfl, rfl, rfl⟩ (fun k hk => ?_) hC hO
        have e13 : (st3 (shM (st3 μ 5 (24 * j + p) 9 (ansr (ν 40 0) (80 + 10 * p))) 30 j 0 w) 9 j 8 (nI w)) 9 j 13 = ν 40 0 13 := by rw [st3_ua, ua_N (by omega), shM_K (by omega), st3_K (by omega)]; exact s13
        rw [e13, hY, shM_S, st3_ua, st3_ua, st3_ua]
        simp only [ua, shf]
        (repeat' split) <;> first | rfl | omega
      · exact ((((FrC.rf.st5 (by omega)).sh).st9 (by omega)).st9 (by omega))
theorem L_counter (hj : j < 12) (h0 : μ 9 j 0 = nI s) (hT : ST μ s (ν 40 0) E P C O) (H : SH μ j (ν 40 0) E P C O n w t dd) (x1 x2 x3 : Int32) :
    ∃ m v w', it (fun s : Int32 × Mem => s_Shop_passDays_33 j x1 x2 x3 s.1 s.2) LIM (0, μ) = some m ∧ it (fun s : Int32 × Mem => s_R_dayPasses_135 s.1 s.2) LIM (0, ν) = some v ∧ SH m j (v 40 0) E P C O n w' t dd ∧ FrC j μ m ∧ FrN ν v := by
  have hT0 := hT
  obtain ⟨hs, hE, hP, hC, hO, -, -, -, -, ⟨r, hr, t1, a1⟩, -⟩ := hT
  have rate : ∀ m v, FrC j μ m → FrN ν v → m 9 j 0 = nI s ∧ m 7 s 1 = nI r ∧ v 40 0 1 = nI r := fun m v F1 F2 => ⟨F1.2.trans h0, by rw [F1.1 7 s (by unfold inS; omega)]; exact t1, (F2.2 1 (by unfold dynI; omega)).trans a1⟩
  refine it_fr2 (f1 := fun q : Int32 × Mem => s_Shop_passDays_33 j x1 x2 x3 q.1 q.2) (f2 := fun q : Int32 × Mem => s_R_dayPasses_135 q.1 q.2) (a := (0, μ)) (b := (0, ν))
    (fun i a b => ∃ m v w', a = (nI i, m) ∧ b = (nI i, v) ∧ SH m j (v 40 0) E P C O n w' t dd ∧ FrC j μ m ∧ FrN ν v) (fun m v => ∃ w', SH m j (v 40 0) E P C O n w' t dd ∧ FrC j μ m ∧ FrN ν v) r 0 (by omega) (by omega) ⟨μ, ν, w, rfl, rfl, H, FrC.rf, FrN.rf⟩ ?_ ?_ (fun r1 r2 e1 e2 e3 => by obtain ⟨w', e4, e5, e6⟩ := e3; exact ⟨r1, r2, w', e1, e2, e4, e5, e6⟩)
  · rintro i hi _ _ ⟨m, v, w', rfl, rfl, H, F1, F2⟩
    obtain ⟨g0, g1, g2⟩ := rate m v F1 F2
    show (∃ a' b', s_Shop_passDays_33 j x1 x2 x3 (nI i) m = some (.inl a') ∧ s_R_dayPasses_135 (nI i) v = some (.inl b') ∧ _) ∨ ∃ r1 r2, s_Shop_passDays_33 j x1 x2 x3 (nI i) m = some (.inr r1) ∧ s_R_dayPasses_135 (nI i) v = some (.inr r2) ∧ _
    unfold s_Shop_passDays_33 s_R_dayPasses_135
    rw [hS_of g0 hs, chk_of (decide_eq_true hs), g1, if_neg (nI_ge hi (by omega)), ib_1_524, chk_t, tn_1, g2, if_neg (nI_ge hi (by omega)), nI_1]
    rcases L_handle hj g0 (hT0.fr F1 F2) H with ⟨e1, e2⟩ | ⟨m', v', w'', e1, e2, e3, e4, e5⟩
    · right
      rw [e1, e2]
      exact ⟨m, v, rfl, rfl, w', H, F1, F2⟩
    · left
      rw [e1, e2]
      exact ⟨_, _, rfl, rfl, _, v', w'', rfl, rfl, e3, F1.tr e4, F2.tr e5⟩
  · rintro _ _ ⟨m, v, w', rfl, rfl, H, F1, F2⟩
    obtain ⟨g0, g1, g2⟩ := rate m v F1 F2
    show ∃ r1 r2, s_Shop_passDays_33 j x1 x2 x3 (nI r) m = some (.inr r1) ∧ s_R_dayPasses_135 (nI r) v = some (.inr r2) ∧ _
    unfold s_Shop_passDays_33 s_R_dayPasses_135
    rw [hS_of g0 hs, chk_of (decide_eq_true hs), g1, if_pos (nI_le (Nat.le_refl _) (by omega)), ib_1_524, chk_t, tn_1, g2, if_pos (nI_le (Nat.le_refl _) (by omega))]
    exact ⟨m, v, rfl, rfl, w', H, F1, F2⟩
/-- one day -/
theorem L_day (hj : j < 12) (h0 : μ 9 j 0 = nI s) (hT : ST μ s (ν 40 0) E P C O) (H : SH μ j (ν 40 0) E P C O n w t dd) (hd : dd + 1 ≤ 20000) {x1 x2 x3 : Int32} (hx : ¬ x1 ≤ x3) :
    ∃ m v w', s_Shop_passDays_7 j x1 x2 x3 μ = some (.inl (x3 + 1, m)) ∧ f_R_dayPasses ν = some v ∧ SH m j (v 40 0) E P C O n w' t (dd + 1) ∧ FrC j μ m ∧ FrN ν v := by
  have hT0 := hT
  obtain ⟨hs, hE, hP, hC, hO, -, -, -, ⟨t7, t9⟩, -⟩ := hT
  obtain ⟨-, -, -, -, s1, a5, -⟩ := H.1
  have F1 : FrC j μ (st3 μ 9 j 1 (nI (dd + 1))) := FrC.rf.st9 (by omega)
  have F2 : FrN ν (st3 ν 40 0 5 (nI (dd + 1))) := FrN.rf.st (dyn_q (by omega))
  have H1 : SH (st3 μ 9 j 1 (nI (dd + 1))) j ((st3 ν 40 0 5 (nI (dd + 1))) 40 0) E P C O n w t (dd + 1) := H.setS hC hO (fun K hK => by rw [st3_K hK]) (fun k hk => by rw [st3_ua, ua_N (by omega)]) (by rw [st3_ua, st3_ua]; exact Ss_day hd H.1)
  obtain ⟨m2, v2, e2, g2, H2, F12, F22⟩ := L_over hC hO H1
  have G1 := F1.tr F12
  have G2 := F2.tr F22
  obtain ⟨m3, v3, e3, g3, H3, F13, F23⟩ := L_owls hC hO ((G2.2 9 (by unfold dynI; omega)).trans t9) H2
  have G1 := G1.tr F13
  have G2 := G2.tr F23
  obtain ⟨m4, v4, w', e4, g4, H4, F14, F24⟩ := L_counter hj (G1.2.trans h0) (hT0.fr G1 G2) H3 x1 x2 x3
  refine ⟨m4, v4, w', ?_, ?_, H4, G1.tr F14, G2.tr F24⟩
  · unfold s_Shop_passDays_7
    rw [if_neg hx, s1, nI_1, nm_9, e2, bind_s, e3, bind_s, e4]
    rfl
  · unfold f_R_dayPasses
    rw [ib_5_524, chk_t, chk_t, tn_5, a5, nI_1, nm_9, g2, bind_s, g3, bind_s, g4]
    rfl
/-- k days -/
theorem L_days (hj : j < 12) (h0 : μ 9 j 0 = nI s) (hT : ST μ s (ν 40 0) E P C O) (H : SH μ j (ν 40 0) E P C O n w t dd) (k : Nat) (hd : dd + k ≤ 20000) {f2 : Int32 × Mem → Option ((Int32 × Mem) ⊕ Mem)} (hf2 : ∀ i v, f2 (nI i, v) = if nI k ≤ nI i then some (.inr v) else (f_R_dayPasses v).bind (fun r => some (.inl (nI i + 1, r)))) :
    ∃ m v w', f_Shop_passDays j (nI k) μ = some (m 9 j 13 - μ 9 j 13, m) ∧ it f2 LIM (0, ν) = some v ∧ SH m j (v 40 0) E P C O n w' t (dd + k) ∧ FrC j μ m ∧ FrN ν v := by
  unfold f_Shop_passDays
  rw [nm_9]
  refine it_fr2 (f1 := fun q : Int32 × Mem => s_Shop_passDays_7 j (nI k) (μ 9 j 13) q.1 q.2) (f2 := f2) (a := (0, μ)) (b := (0, ν))
    (fun i a b => ∃ m v w', a = (nI i, m) ∧ b = (nI i, v) ∧ SH m j (v 40 0) E P C O n w' t (dd + i) ∧ FrC j μ m ∧ FrN ν v) (fun m v => ∃ w', SH m j (v 40 0) E P C O n w' t (dd + k) ∧ FrC j μ m ∧ FrN ν v) k 0 (by omega) (by omega) ⟨μ, ν, w, rfl, rfl, H, FrC.rf, FrN.rf⟩ ?_ ?_ (fun r1 r2 e1 e2 e3 => by obtain ⟨w', e4, e5, e6⟩ := e3; exact ⟨r1, r2, w', by rw [e1]; rfl, e2, e4, e5, e6⟩)
  · rintro i hi _ _ ⟨m, v, w', rfl, rfl, H, F1, F2⟩
    left
    obtain ⟨m', v', w'', e1, e2, H', F1', F2'⟩ := L_day hj (F1.2.trans h0) (hT.fr F1 F2) H (by omega) (x1 := nI k) (x2 := μ 9 j 13) (x3 := nI i) (nI_ge hi (by omega))
    refine ⟨_, _, e1, ?_, m', v', w'', by rw [nI_1], rfl, H', F1.tr F1', F2.tr F2'⟩
    rw [hf2, if_neg (nI_ge hi (by omega)), e2, bind_s, nI_1]
  · rintro _ _ ⟨m, v, w', rfl, rfl, H, F1, F2⟩
    refine ⟨m, v, ?_, ?_, w', H, F1, F2⟩
    · show s_Shop_passDays_7 j (nI k) (μ 9 j 13) (nI k) m = _
      unfold s_Shop_passDays_7
      rw [if_pos (nI_le (Nat.le_refl _) (by omega))]
    · rw [hf2, if_pos (nI_le (Nat.le_refl _) (by omega))]
end Counter

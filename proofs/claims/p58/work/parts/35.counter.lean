/-! The counter handles a request, in the class and in the model. -/
theorem FrC.sh {j m : Nat} {μ μ' : Mem} (h : FrC j μ μ') : FrC j μ (shM μ' 30 j 0 m) := by
  refine ⟨fun K i q => ?_, ?_⟩
  · by_cases e : K = 30
    · subst e
      by_cases e2 : i = j
      · subst e2; exact absurd (Or.inl ⟨Or.inr (by omega), rfl⟩) q
      · rw [shM_J e2]; exact h.1 _ _ q
    · rw [shM_K e]; exact h.1 _ _ q
  · rw [shM_K (by omega)]; exact h.2
theorem rowP.ans {q a : Nat → Int32} {b E P C : Nat} {v : Int32} (h : rowP q a b E P C) : rowP (ua q 9 v) (ua a (b + 9) v) b E P C := by
  obtain ⟨h1, h2, h3, h4, h5, h6, h7, h8, h9, h10⟩ := h
  have qa : ∀ f, f ≠ 9 → ua q 9 v f = q f := fun f e1 => ua_N e1
  have aa : ∀ f, f ≠ 9 → ua a (b + 9) v (b + f) = a (b + f) := fun f e1 => ua_N (by omega)
  unfold rowP
  rw [qa 0 (by omega), qa 1 (by omega), qa 2 (by omega), qa 3 (by omega), qa 4 (by omega), qa 5 (by omega), qa 6 (by omega), qa 7 (by omega), qa 8 (by omega),
    aa 0 (by omega), aa 1 (by omega), aa 2 (by omega), aa 3 (by omega), aa 4 (by omega), aa 5 (by omega), aa 6 (by omega), aa 7 (by omega), aa 8 (by omega), ua_S, ua_S]
  exact ⟨h1, h2, h3, h4, h5, h6, h7, h8, h9, rfl⟩
theorem rowP.paid {q a : Nat → Int32} {b E P C : Nat} (h : rowP q a b E P C) (h0 : a (b + 7) ≠ 0) : rowP (ua q 7 3) (ua a (b + 7) 3) b E P C := by
  obtain ⟨h1, h2, h3, h4, h5, h6, h7, h8, h9, h10⟩ := h
  have qa : ∀ f, f ≠ 7 → ua q 7 3 f = q f := fun f e1 => ua_N e1
  have aa : ∀ f, f ≠ 7 → ua a (b + 7) 3 (b + f) = a (b + f) := fun f e1 => ua_N (by omega)
  unfold rowP
  rw [qa 0 (by omega), qa 1 (by omega), qa 2 (by omega), qa 3 (by omega), qa 4 (by omega), qa 5 (by omega), qa 6 (by omega), qa 9 (by omega), qa 8 (by omega),
    aa 0 (by omega), aa 1 (by omega), aa 2 (by omega), aa 3 (by omega), aa 4 (by omega), aa 5 (by omega), aa 6 (by omega), aa 9 (by omega), aa 8 (by omega), ua_S, ua_S]
  exact ⟨h1, h2, h3, h4, h5, h6, rfl, Or.inr (Or.inr (Or.inr rfl)), fun _ => h9 h0, h10⟩
theorem ansr_1 {a : Nat → Int32} {b : Nat} (h : ansr a b = 1) : a (b + 7) ≠ 0 := by
  intro z
  unfold ansr at h
  rw [if_pos z] at h
  exact absurd h (by decide)
theorem dyn_q {k : Nat} (h : k = 0 ∨ k = 5 ∨ (10 ≤ k ∧ k ≤ 14)) : dynI k := by unfold dynI; omega
section Counter
variable {c0 : Int32} {b : Nat} {μ ν : Mem} {j s E P C O n w t dd : Nat}
set_option maxRecDepth 100000 in
set_option maxHeartbeats 4000000 in
theorem L_handle (hj : j < 12) (h0 : μ 9 j 0 = nI s) (hT : ST μ s (rO c0 b ν) E P C O) (H : SH μ j (rO c0 b ν) E P C O n w t dd) (hI : CI (rO c0 b ν) C O n) (hV : OVD (rO c0 b ν) n dd) {i r1 : Nat} (hi : i < r1) (hr9 : r1 ≤ 9) (hr1 : rO c0 b ν 1 = nI r1) :
    (f_Shop_handleFirstRequest j μ = some (0, μ) ∧ (s_Own_passes_200 b (nI i) ν = some (.inr (.inl ν)) ∨ s_Own_passes_200 b (nI i) ν = some (.inr (.inr ν)))) ∨
    ∃ m v w', f_Shop_handleFirstRequest j μ = some (1, m) ∧ s_Own_passes_200 b (nI i) ν = some (.inl (nI (i + 1), v)) ∧ SH (st3 m 9 j 13 (m 9 j 13 + 1)) j (rO c0 b v) E P C O n w' t dd ∧ FrC j μ (st3 m 9 j 13 (m 9 j 13 + 1)) ∧ FrO c0 b ν v ∧ CI (rO c0 b v) C O n ∧ OVD (rO c0 b v) n dd := by
  have hT0 := hT
  obtain ⟨hs, hE, hP, hC, hO, -, -, ⟨t3, -⟩, ⟨t7, t9⟩, -, -, -, -, -, -, tc, to, -⟩ := hT
  have H0 := H
  obtain ⟨hs9, hpr, how, hpu, hqu, hno⟩ := H
  have hs8 := hs9
  obtain ⟨hn, hw, ht, hdd, s1, a5, s2, s5, a10, s8, a12, s12, a11, s13, s14⟩ := hs9
  have o1 : ν 60 b 1 = nI r1 := (ro_0 (c0 := c0) (by omega)).symm.trans hr1
  have o12 : ν 60 b 12 = nI w := (ro_0 (c0 := c0) (by omega)).symm.trans a12
  have o9 : ν 60 b 9 = nI O := (ro_0 (c0 := c0) (by omega)).symm.trans t9
  cases w with
  | zero =>
    left
    refine ⟨?_, Or.inl ?_⟩
    · unfold f_Shop_handleFirstRequest f_Shop_requestAt
      rw [s8, if_neg (by decide), if_pos (by decide), bind_s, C_hasSold s5 hn, bind_s, if_pos]
      unfold ixB
      rw [if_pos (Or.inl (by decide))]
    · unfold s_Own_passes_200
      rw [o1, if_neg (nI_ge hi (by omega)), o12, if_pos (by decide)]
  | succ w =>
    obtain ⟨hq0, p, hp, hap⟩ := hqu.1 0 (by omega)
    rw [Nat.add_zero] at hq0 hap
    have h24 : p < 24 := by omega
    have eA : f_Shop_requestAt j 0 μ = some (nI p) := by
      unfold f_Shop_requestAt
      rw [s8, if_neg (by decide), if_neg (le_0 (by omega) (by omega)), if_neg (by decide), ib_0_24, chk_t, tn_0, hq0, hap]
    have hrow := hpr p hp
    have eB := C_answerTo (q := 24 * j + p) (b := 80 + 10 * p) h0 hT0 hrow hs8
    have eC : f_Shop_handleFirstRequest j μ = (if ansr (rO c0 b ν) (80 + 10 * p) = 1 then (f_Shop_firstIdleOwl j μ).bind (fun r8 => if r8 = (-1) then some (0, μ) else (f_Shop_pay j (24 * j + p) r8 μ).bind (fun r9 => nm (st3 r9 5 (24 * j + p) 9 1) (fun μ10 => (f_Shop_removeFirstRequest j μ10).bind (fun r11 => some (1, r11))))) else nm (st3 μ 5 (24 * j + p) 9 (ansr (rO c0 b ν) (80 + 10 * p))) (fun μ6 => (f_Shop_removeFirstRequest j μ6).bind (fun r7 => some (1, r7)))) := by
      unfold f_Shop_handleFirstRequest
      rw [eA, bind_s, C_hasSold s5 hn, ixB_in (by omega) hp, bind_s, if_neg (by decide), C_prophecyWith s5 hn hp, bind_s, chk_of (decide_eq_true (by omega)), eB, bind_s]
      split
      · rename_i e; rw [e]
      · rfl
    have o77 : ν 77 b 0 = nI p := (ro_q (c0 := c0)).symm.trans hap
    have hbp : inb (nI p) 24 = true := inb_of h24 (by omega)
    have hcp : (nI p).toNatClampNeg = p := nI_clamp (by omega)
    have hexp : f_Own_expected b (nI p) ν = some (ansr (rO c0 b ν) (80 + 10 * p)) := O_expected hn hp ⟨_, hrow⟩ hP hI a5 hdd
    have hidl := O_idle (v := ν) t9 hO (fun o ho => by obtain ⟨⟨d, d1, -, d3⟩, -⟩ := how.1 o ho; exact ⟨d, d1, d3⟩)
    have hrf := O_refund (v := ν) hn hp ⟨_, hrow⟩ hP
    -- the law's own shop behind the shift
    have eY : ∀ x : Int32, ∃ Y : Mem, hdY b p w x ν = Y ∧ rO c0 b Y = shf (ua (ua (ua (rO c0 b ν) (80 + 10 * p + 9) x) 13 (rO c0 b ν 13 + 1)) 12 (nI w)) 500 w ∧ (∀ K, K ≠ 76 → K ≠ 60 → K ≠ 77 → Y K = ν K) ∧ (∀ f, f ≠ 12 → f ≠ 13 → Y 60 b f = ν 60 b f) ∧ FrO c0 b ν Y := by
      intro x
      have e1 : rO c0 b (hdY b p w x ν) = shf (ua (ua (ua (rO c0 b ν) (80 + 10 * p + 9) x) 13 (rO c0 b ν 13 + 1)) 12 (nI w)) 500 w := by
        unfold hdY
        rw [rO_sh, sto_0 (by omega), sto_0 (by omega), sto_p9 h24, ro_0 (by omega)]
      refine ⟨_, rfl, e1, fun K k1 k2 k3 => ?_, fun f f1 f2 => ?_, ⟨fun k hk => ?_, ?_⟩⟩
      · unfold hdY
        rw [shM_K k3, st3_K k2, st3_K k2, st3_K k1]
      · unfold hdY
        rw [shM_K (by omega), st3_f f1, st3_f f2, st3_K (by omega)]
      · rw [e1, shf_out (by unfold dynI at hk; omega), ua_N (by unfold dynI at hk; omega), ua_N (by unfold dynI at hk; omega), ua_N (by unfold dynI at hk; omega)]
      · unfold hdY
        rw [shM_K (by omega), st3_K (by omega), st3_K (by omega), st3_K (by omega)]
    rw [eC]
    by_cases c1 : ansr (rO c0 b ν) (80 + 10 * p) = 1
    · rw [if_pos c1, C_firstIdleOwl h0 hT0 how hj, bind_s]
      rcases fdI_sp (P := fun o => decide (rO c0 b ν (52 + 5 * o + 1) = 0)) (n := O) (i := 0) with ⟨e1, -⟩ | ⟨o, -, ho, hz, e1, -⟩
      · left
        rw [show idl (rO c0 b ν) O = -1 from e1, if_pos rfl]
        refine ⟨rfl, Or.inr (O_hand0 o1 hi hr9 o12 hw o77 h24 hexp hidl (fun _ => ?_) c1)⟩
        rw [show idl (rO c0 b ν) O = -1 from e1, if_pos rfl, o9]
      · right
        rw [Nat.zero_add] at ho
        have h5 : o < 5 := by omega
        rw [show idl (rO c0 b ν) O = nI o from e1, if_neg (ne_m1 (by omega))]
        rw [show idl (rO c0 b ν) O = nI o from e1, if_neg (ne_m1 (by omega))] at hidl
        rw [c1] at hexp
        have hz : rO c0 b ν (52 + 5 * o + 1) = 0 := of_decide_eq_true hz
        obtain ⟨c, hc, q0, b0⟩ := hrow.1
        replace q0 : μ 5 (24 * j + p) 0 = nI c := q0
        have hc8 : c < 8 := by omega
        obtain ⟨-, d, hd1, hd2, td, ad⟩ := tc c hc
        obtain ⟨v, hv1, hv2, tv, av⟩ := to o ho
        obtain ⟨Y, hY, rY, YK, Y60, FY⟩ := eY 1
        have hpy := C_pay (q := 24 * j + p) (b := 0) hj h0 hs (C_refundFor h0 hT0 hrow) hO hC t7 t3 ho hc q0 td hd2 tv hv1 hv2
        rw [s2, s14] at hpy
        have hT9 : (d + v - 1) / v ≤ 60 := Nat.le_trans (Nat.div_le_self _ _) (by omega)
        have hT1 : 1 ≤ (d + v - 1) / v := (Nat.le_div_iff_mul_le (by omega)).mpr (by omega)
        generalize hTe : (d + v - 1) / v = T at hpy hT9 hT1
        generalize hrd : rfd (rO c0 b ν) (80 + 10 * p) = r at hpy hrf
        -- the owl is at home: it carries nothing
        have hco : rO c0 b ν (52 + 5 * o + 3) = -1 ∧ rO c0 b ν (52 + 5 * o + 2) = 0 := by
          rcases (how.1 o ho).2.2 with ⟨-, ⟨c9, hc9, -, g2⟩, -⟩ | ⟨-, g2, g3⟩
          · rcases hI.2.2.1 o ho with g4 | ⟨⟨d9, g4, g5, g6⟩, -⟩
            · rw [g2] at g4
              exact absurd g4 (ne_m1 (by omega))
            · rw [g6] at hz
              exact absurd hz (ne_0 (by omega) (by omega))
          · exact ⟨g2, g3⟩
        -- the law's own
        have y68 : Y 68 b p = nI c := by rw [YK 68 (by omega) (by omega) (by omega)]; exact (ro_p0 (c0 := c0) h24).symm.trans b0
        have y62 : Y 62 b c = nI d := by rw [YK 62 (by omega) (by omega) (by omega)]; exact (ro_c2 (c0 := c0) hc8).symm.trans ad
        have y63 : Y 63 b o = nI v := by rw [YK 63 (by omega) (by omega) (by omega)]; exact (ro_o0 (c0 := c0) h5).symm.trans av
        have hRf : ∀ x y : Int32, f_Own_refund b (nI p) (st3 (st3 Y 67 b o x) 64 b o y) = some r := fun x y => by
          rw [O_refund_m (ν := ν) (by rw [st3_K (by omega), st3_K (by omega), YK 70 (by omega) (by omega) (by omega)]) (by rw [st3_K (by omega), st3_K (by omega), YK 73 (by omega) (by omega) (by omega)]) (by rw [st3_K (by omega), st3_K (by omega), Y60 3 (by omega) (by omega)]) (by rw [st3_K (by omega), st3_K (by omega), Y60 4 (by omega) (by omega)])]
          exact hrf
        have y0 : Y 60 b 0 = rO c0 b ν 0 := by rw [Y60 0 (by omega) (by omega), ro_0 (by omega)]
        have y14 : Y 60 b 14 = rO c0 b ν 14 := by rw [Y60 14 (by omega) (by omega), ro_0 (by omega)]
        have eV := O_hand2 (i := i) o1 hi hr9 o12 hw o77 h24 hexp hidl (show ν 60 b 9 ≠ nI o by rw [o9]; intro z; have := (nI_eq (by omega) (by omega)).mp z; omega) hY h5 hc8 y68 y62 y63 hv1 hv2 hd2 hTe hRf y0 y14
        rw [hpy, bind_s, nm_9]
        generalize hvv : hdV b p o c T r (rO c0 b ν 0) (rO c0 b ν 14) Y = V at eV
        have rV9 : rO c0 b V = ua (ua (ua (ua (ua (ua (ua (rO c0 b Y) (52 + 5 * o + 4) (nI T)) (52 + 5 * o + 1) (nI T)) (52 + 5 * o + 2) r) (52 + 5 * o + 3) (nI c)) 0 (rO c0 b ν 0 - r)) 14 (rO c0 b ν 14 + r)) (80 + 10 * p + 7) 3 := by
          rw [← hvv]
          unfold hdV
          rw [sto_p7 h24, sto_0 (by omega), sto_0 (by omega), sto_o3 h5, sto_o2 h5, sto_o1 h5, sto_o4 h5]
        -- the steps
        have H1 : SH (st3 (st3 μ 9 j 2 (rO c0 b ν 0 - r)) 9 j 14 (rO c0 b ν 14 + r)) j (ua (ua (rO c0 b ν) 0 (rO c0 b ν 0 - r)) 14 (rO c0 b ν 14 + r)) E P C O n (w + 1) t dd :=
          H0.setS hC hO (fun K hK => by rw [st3_K hK, st3_K hK]) (fun k hk => by rw [ua_N (by omega), ua_N (by omega)]) (by rw [st3_two]; exact Ss_paid (Ss_cash hs8))
        have H2 := H1.setP (μ' := st3 (st3 (st3 μ 9 j 2 (rO c0 b ν 0 - r)) 9 j 14 (rO c0 b ν 14 + r)) 5 (24 * j + p) 7 3) (a' := ua (ua (ua (rO c0 b ν) 0 (rO c0 b ν 0 - r)) 14 (rO c0 b ν 14 + r)) (80 + 10 * p + 7) 3) p hp hC hO (fun K hK => by rw [st3_K hK]) (fun i hi => by rw [st3_J (by omega)]) (fun k hk => ua_N (by omega))
          (by rw [st3_ua]; exact (H1.2.1 p hp).paid (by rw [ua_N (by omega), ua_N (by omega)]; exact ansr_1 c1))
        generalize hm2 : st3 (st3 (st3 μ 9 j 2 (rO c0 b ν 0 - r)) 9 j 14 (rO c0 b ν 14 + r)) 5 (24 * j + p) 7 3 = m2 at H2 ⊢
        generalize ha2 : ua (ua (ua (rO c0 b ν) 0 (rO c0 b ν 0 - r)) 14 (rO c0 b ν 14 + r)) (80 + 10 * p + 7) 3 = a2 at H2
        have H3 := H2.setO (μ' := st3 (st3 (st3 (st3 (st3 m2 4 (5 * j + o) 2 (nI c)) 4 (5 * j + o) 1 r) 4 (5 * j + o) 3 (nI T)) 4 (5 * j + o) 0 (nI T)) 4 (5 * j + o) 4 1) (a' := ua (ua (ua (ua a2 (52 + 5 * o + 1) (nI T)) (52 + 5 * o + 4) (nI T)) (52 + 5 * o + 2) r) (52 + 5 * o + 3) (nI c)) o ho hC hO
          (fun K hK => by rw [st3_K hK, st3_K hK, st3_K hK, st3_K hK, st3_K hK]) (fun i hi => by rw [st3_J (by omega), st3_J (by omega), st3_J (by omega), st3_J (by omega), st3_J (by omega)]) (fun k hk => by rw [ua_N (by omega), ua_N (by omega), ua_N (by omega), ua_N (by omega)])
          (by
            rw [st3_ua, st3_ua, st3_ua, st3_ua, st3_ua]
            refine ⟨⟨T, hT9, ?_, ?_⟩, ?_, Or.inl ⟨?_, ⟨c, hc, ?_, ?_⟩, T, hT9, ?_, ?_⟩⟩
            · rw [ua_N (by omega), ua_S]
            · rw [ua_N (by omega), ua_N (by omega), ua_N (by omega), ua_S]
            · rw [ua_N (by omega), ua_N (by omega), ua_N (by omega), ua_S, ua_N (by omega), ua_S]
            · rw [ua_S]
            · rw [ua_N (by omega), ua_N (by omega), ua_N (by omega), ua_N (by omega), ua_S]
            · rw [ua_S]
            · rw [ua_N (by omega), ua_N (by omega), ua_S]
            · rw [ua_N (by omega), ua_N (by omega), ua_S])
        generalize hm3 : st3 (st3 (st3 (st3 (st3 m2 4 (5 * j + o) 2 (nI c)) 4 (5 * j + o) 1 r) 4 (5 * j + o) 3 (nI T)) 4 (5 * j + o) 0 (nI T)) 4 (5 * j + o) 4 1 = m3 at H3 ⊢
        generalize ha3 : ua (ua (ua (ua a2 (52 + 5 * o + 1) (nI T)) (52 + 5 * o + 4) (nI T)) (52 + 5 * o + 2) r) (52 + 5 * o + 3) (nI c) = a3 at H3
        have F3 : FrC j μ m3 := by
          rw [← hm3, ← hm2]
          exact (((((((FrC.rf.st9 (by omega)).st9 (by omega)).st5 (by omega)).st4 (by omega)).st4 (by omega)).st4 (by omega)).st4 (by omega)).st4 (by omega)
        have H4 := H3.setP (μ' := st3 m3 5 (24 * j + p) 9 1) (a' := ua a3 (80 + 10 * p + 9) 1) p hp hC hO (fun K hK => by rw [st3_K hK]) (fun i hi => by rw [st3_J (by omega)]) (fun k hk => ua_N (by omega)) (by rw [st3_ua]; exact (H3.2.1 p hp).ans)
        rw [C_remove (w := w) (by obtain ⟨-, -, -, -, -, -, -, -, -, z, -⟩ := H4.1; exact z) (by omega), bind_s]
        refine ⟨_, V, w, rfl, eV, ?_, ?_, ?_, ?_, ?_⟩
        · have H5 := SH_rem H4 hC hO
          have H6 := H5.setS (μ' := st3 (st3 (shM (st3 m3 5 (24 * j + p) 9 1) 30 j 0 w) 9 j 8 (nI w)) 9 j 13 ((st3 (shM (st3 m3 5 (24 * j + p) 9 1) 30 j 0 w) 9 j 8 (nI w)) 9 j 13 + 1)) (a' := ua (ua (shf (ua a3 (80 + 10 * p + 9) 1) 500 w) 12 (nI w)) 13 ((st3 (shM (st3 m3 5 (24 * j + p) 9 1) 30 j 0 w) 9 j 8 (nI w)) 9 j 13 + 1)) hC hO (fun K hK => by rw [st3_K hK]) (fun k hk => ua_N (by omega)) (by rw [st3_ua]; exact Ss_hand H5.1)
          refine H6.cong ⟨rfl, fun _ _ => rfl, fun _ _ => rfl, rfl, rfl, rfl, rfl, rfl⟩ (fun k hk => ?_) hC hO
          have e13 : (st3 (shM (st3 m3 5 (24 * j + p) 9 1) 30 j 0 w) 9 j 8 (nI w)) 9 j 13 = rO c0 b ν 13 := by
            rw [st3_ua, ua_N (by omega), shM_K (by omega), st3_K (by omega), ← hm3, st3_K (by omega), st3_K (by omega), st3_K (by omega), st3_K (by omega), st3_K (by omega), ← hm2, st3_K (by omega), st3_ua, ua_N (by omega), st3_ua, ua_N (by omega)]
            exact s13
          rw [e13, rV9, rY, ← ha3, ← ha2]
          simp only [ua, shf]
          by_cases h1 : k = 80 + 10 * p + 7
          · repeat (first | rw [if_pos (by omega)] | rw [if_neg (by omega)])
          by_cases h2 : k = 14
          · repeat (first | rw [if_pos (by omega)] | rw [if_neg (by omega)])
          by_cases h3 : k = 0
          · repeat (first | rw [if_pos (by omega)] | rw [if_neg (by omega)])
          by_cases h4 : k = 52 + 5 * o + 3
          · repeat (first | rw [if_pos (by omega)] | rw [if_neg (by omega)])
          by_cases h5 : k = 52 + 5 * o + 2
          · repeat (first | rw [if_pos (by omega)] | rw [if_neg (by omega)])
          by_cases h6 : k = 52 + 5 * o + 4
          · repeat (first | rw [if_pos (by omega)] | rw [if_neg (by omega)])
          by_cases h7 : k = 52 + 5 * o + 1
          · repeat (first | rw [if_pos (by omega)] | rw [if_neg (by omega)])
          by_cases h8 : k = 13
          · repeat (first | rw [if_pos (by omega)] | rw [if_neg (by omega)])
          by_cases h9 : k = 12
          · repeat (first | rw [if_pos (by omega)] | rw [if_neg (by omega)])
          by_cases h10 : k = 80 + 10 * p + 9
          · repeat (first | rw [if_pos (by omega)] | rw [if_neg (by omega)])
          by_cases h99 : 500 ≤ k ∧ k < 500 + w
          · repeat (first | rw [if_pos (by omega)] | rw [if_neg (by omega)])
          · repeat (first | rw [if_pos (by omega)] | rw [if_neg (by omega)])
        · exact (((F3.st5 (by omega)).sh).st9 (by omega)).st9 (by omega)
        · rw [← hvv]
          unfold hdV
          exact ((((((FY.up (sto_o4 h5) (dyn_owl (by omega) (by omega) (by omega)) (by rw [st3_K (by omega)])).up (sto_o1 h5) (dyn_owl (by omega) (by omega) (by omega)) (by rw [st3_K (by omega)])).up (sto_o2 h5) (dyn_owl (by omega) (by omega) (by omega)) (by rw [st3_K (by omega)])).up (sto_o3 h5) (dyn_owl (by omega) (by omega) (by omega)) (by rw [st3_K (by omega)])).up (sto_0 (by omega)) (dyn_q (by omega)) (by rw [st3_K (by omega)])).up (sto_0 (by omega)) (dyn_q (by omega)) (by rw [st3_K (by omega)])).up (sto_p7 h24) (dyn_row (by omega)) (by rw [st3_K (by omega)])
        · have h7 : rO c0 b ν (80 + 10 * p + 7) ≠ 3 := by
            intro z
            unfold ansr at c1
            rw [if_neg (by rw [z]; decide), if_neg (by rw [z]; decide), if_pos z] at c1
            exact absurd c1 (by decide)
          have g : ∀ k, ¬ irr k → rO c0 b Y k = rO c0 b ν k := fun k hk => by
            rw [rY, shf_out (by unfold irr at hk; omega), ua_N (by unfold irr at hk; omega), ua_N (by unfold irr at hk; omega), ua_N (by unfold irr at hk; omega)]
          refine hI.pay (o := o) (p := p) (T := T) (r := r) hC hO hn ho hp hco.2 h7 (ansr_1 c1) hT1 hT9 hrd.symm (fun k k1 k2 k3 k4 k5 => ?_) ?_ ?_ ?_ ?_ ?_ ?_
          · rw [rV9, ua_N k4, ua_N k3, ua_N k2, ua_N (by omega), ua_N (by omega), ua_N (by omega), ua_N (by omega)]
            exact g k k1
          · rw [rV9, ua_N (by omega), ua_N (by omega), ua_S]
          · rw [rV9, ua_N (by omega), ua_S]
          · rw [rV9, ua_S]
          · rw [rV9, ua_N (by omega), ua_N (by omega), ua_N (by omega), ua_N (by omega), ua_N (by omega), ua_S]
          · rw [rV9, ua_N (by omega), ua_N (by omega), ua_N (by omega), ua_N (by omega), ua_S]
          · rw [rV9, ua_N (by omega), ua_N (by omega), ua_N (by omega), ua_N (by omega), ua_N (by omega), ua_N (by omega), ua_S]
        · have g : ∀ q, q < n → ∀ f, f = 5 ∨ f = 7 → (f = 7 → q ≠ p) → rO c0 b V (80 + 10 * q + f) = rO c0 b ν (80 + 10 * q + f) := fun q hq f hf hqp => by
            rw [rV9, ua_N (by omega), ua_N (by omega), ua_N (by omega), ua_N (by omega), ua_N (by omega), ua_N (by omega), ua_N (by omega), rY, shf_out (by omega), ua_N (by omega), ua_N (by omega), ua_N (by omega)]
          refine hV.cong hn (fun q hq z => ?_) (fun q hq => g q hq 5 (Or.inl rfl) (fun z => absurd z (by decide)))
          by_cases e : q = p
          · subst e
            rw [rV9, ua_S] at z
            exact absurd z (by decide)
          · rw [← g q hq 7 (Or.inr rfl) (fun _ => e)]
            exact z
    · right
      rw [if_neg c1]
      obtain ⟨Y, hY, rY, YK, Y60, FY⟩ := eY (ansr (rO c0 b ν) (80 + 10 * p))
      have eV := O_hand1 (i := i) o1 hi hr9 o12 hw o77 h24 hexp hidl c1
      rw [hY] at eV
      rw [nm_9, C_remove (w := w) (by rw [st3_K (by omega)]; exact s8) (by omega), bind_s]
      have g : ∀ k, ¬ irr k → rO c0 b Y k = rO c0 b ν k := fun k hk => by
        rw [rY, shf_out (by unfold irr at hk; omega), ua_N (by unfold irr at hk; omega), ua_N (by unfold irr at hk; omega), ua_N (by unfold irr at hk; omega)]
      refine ⟨_, Y, w, rfl, eV, ?_, ?_, FY, hI.cong hC hO hn g, hV.cong hn (fun q hq z => by rw [← g _ (by unfold irr; omega)]; exact z) (fun q hq => g _ (by unfold irr; omega))⟩
      · have H1 : SH (st3 μ 5 (24 * j + p) 9 (ansr (rO c0 b ν) (80 + 10 * p))) j (ua (rO c0 b ν) (80 + 10 * p + 9) (ansr (rO c0 b ν) (80 + 10 * p))) E P C O n (w + 1) t dd :=
          H0.setP p hp hC hO (fun K hK => by rw [st3_K hK]) (fun i hi => by rw [st3_J (by omega)]) (fun k hk => ua_N (by omega)) (by rw [st3_ua]; exact hrow.ans)
        have H2 := SH_rem H1 hC hO
        have H3 := H2.setS (μ' := st3 (st3 (shM (st3 μ 5 (24 * j + p) 9 (ansr (rO c0 b ν) (80 + 10 * p))) 30 j 0 w) 9 j 8 (nI w)) 9 j 13 ((st3 (shM (st3 μ 5 (24 * j + p) 9 (ansr (rO c0 b ν) (80 + 10 * p))) 30 j 0 w) 9 j 8 (nI w)) 9 j 13 + 1))
          (a' := ua (ua (shf (ua (rO c0 b ν) (80 + 10 * p + 9) (ansr (rO c0 b ν) (80 + 10 * p))) 500 w) 12 (nI w)) 13 ((st3 (shM (st3 μ 5 (24 * j + p) 9 (ansr (rO c0 b ν) (80 + 10 * p))) 30 j 0 w) 9 j 8 (nI w)) 9 j 13 + 1)) hC hO (fun K hK => by rw [st3_K hK]) (fun k hk => ua_N (by omega)) (by rw [st3_ua]; exact Ss_hand H2.1)
        refine H3.cong ⟨rfl, fun _ _ => rfl, fun _ _ => rfl, rfl, rfl, rfl, rfl, rfl⟩ (fun k hk => ?_) hC hO
        have e13 : (st3 (shM (st3 μ 5 (24 * j + p) 9 (ansr (rO c0 b ν) (80 + 10 * p))) 30 j 0 w) 9 j 8 (nI w)) 9 j 13 = rO c0 b ν 13 := by rw [st3_ua, ua_N (by omega), shM_K (by omega), st3_K (by omega)]; exact s13
        rw [e13, rY]
        simp only [ua, shf]
        (repeat' split) <;> first | rfl | omega
      · exact ((((FrC.rf.st5 (by omega)).sh).st9 (by omega)).st9 (by omega))
theorem L_counter (hj : j < 12) (h0 : μ 9 j 0 = nI s) (hT : ST μ s (rO c0 b ν) E P C O) (H : SH μ j (rO c0 b ν) E P C O n w t dd) (hI : CI (rO c0 b ν) C O n) (hV : OVD (rO c0 b ν) n dd) (x1 x2 x3 : Int32) :
    ∃ m v w', it (fun s : Int32 × Mem => s_Shop_passDays_33 j x1 x2 x3 s.1 s.2) LIM (0, μ) = some m ∧ (it (fun s : Int32 × Mem => s_Own_passes_200 b s.1 s.2) LIM (0, ν)).bind (fun q4 => els q4 (fun r5 => some r5) (fun v => some v)) = some v ∧ SH m j (rO c0 b v) E P C O n w' t dd ∧ FrC j μ m ∧ FrO c0 b ν v ∧ CI (rO c0 b v) C O n ∧ OVD (rO c0 b v) n dd := by
  have hT0 := hT
  obtain ⟨hs, hE, hP, hC, hO, -, -, -, -, ⟨r, hr, t1, a1⟩, -⟩ := hT
  have rate : ∀ m v, FrC j μ m → FrO c0 b ν v → m 9 j 0 = nI s ∧ m 7 s 1 = nI r ∧ rO c0 b v 1 = nI r := fun m v F1 F2 => ⟨F1.2.trans h0, by rw [F1.1 7 s (by unfold inS; omega)]; exact t1, (F2.1 1 (by unfold dynI; omega)).trans a1⟩
  refine it_fr2 (f1 := fun q : Int32 × Mem => s_Shop_passDays_33 j x1 x2 x3 q.1 q.2) (f2 := fun q : Int32 × Mem => s_Own_passes_200 b q.1 q.2) (a := (0, μ)) (b := (0, ν))
    (fun i a b' => ∃ m v w', a = (nI i, m) ∧ b' = (nI i, v) ∧ SH m j (rO c0 b v) E P C O n w' t dd ∧ FrC j μ m ∧ FrO c0 b ν v ∧ CI (rO c0 b v) C O n ∧ OVD (rO c0 b v) n dd) (fun m z => ∃ v w', (z = .inl v ∨ z = .inr v) ∧ SH m j (rO c0 b v) E P C O n w' t dd ∧ FrC j μ m ∧ FrO c0 b ν v ∧ CI (rO c0 b v) C O n ∧ OVD (rO c0 b v) n dd) r 0 (by omega) (by omega) ⟨μ, ν, w, rfl, rfl, H, FrC.rf, FrO.rf, hI, hV⟩ ?_ ?_ (fun r1 r2 e1 e2 e3 => by
      obtain ⟨v, w', e7, e4, e5, e6⟩ := e3
      refine ⟨r1, v, w', e1, ?_, e4, e5, e6⟩
      rw [e2, bind_s]
      rcases e7 with rfl | rfl
      · rw [els_l]
      · rw [els_r])
  · rintro i hi _ _ ⟨m, v, w', rfl, rfl, H, F1, F2, hI, hV⟩
    obtain ⟨g0, g1, g2⟩ := rate m v F1 F2
    show (∃ a' b', s_Shop_passDays_33 j x1 x2 x3 (nI i) m = some (.inl a') ∧ s_Own_passes_200 b (nI i) v = some (.inl b') ∧ _) ∨ ∃ r1 r2, s_Shop_passDays_33 j x1 x2 x3 (nI i) m = some (.inr r1) ∧ s_Own_passes_200 b (nI i) v = some (.inr r2) ∧ _
    unfold s_Shop_passDays_33
    rw [hS_of g0 hs, chk_of (decide_eq_true hs), g1, if_neg (nI_ge hi (by omega)), nI_1]
    rcases L_handle hj g0 (hT0.fro F1 F2) H hI hV hi hr g2 with ⟨e1, e2⟩ | ⟨m', v', w'', e1, e2, e3, e4, e5, e6, e7⟩
    · right
      rw [e1]
      rcases e2 with e2 | e2
      · rw [e2]
        exact ⟨m, _, rfl, rfl, v, w', Or.inl rfl, H, F1, F2, hI, hV⟩
      · rw [e2]
        exact ⟨m, _, rfl, rfl, v, w', Or.inr rfl, H, F1, F2, hI, hV⟩
    · left
      rw [e1, e2]
      exact ⟨_, _, rfl, rfl, _, v', w'', rfl, rfl, e3, F1.tr e4, F2.tr e5, e6, e7⟩
  · rintro _ _ ⟨m, v, w', rfl, rfl, H, F1, F2, hI, hV⟩
    obtain ⟨g0, g1, g2⟩ := rate m v F1 F2
    rw [ro_0 (by omega)] at g2
    show ∃ r1 r2, s_Shop_passDays_33 j x1 x2 x3 (nI r) m = some (.inr r1) ∧ s_Own_passes_200 b (nI r) v = some (.inr r2) ∧ _
    unfold s_Shop_passDays_33 s_Own_passes_200
    rw [hS_of g0 hs, chk_of (decide_eq_true hs), g1, if_pos (nI_le (Nat.le_refl _) (by omega)), g2, if_pos (nI_le (Nat.le_refl _) (by omega))]
    exact ⟨m, _, rfl, rfl, v, w', Or.inl rfl, H, F1, F2, hI, hV⟩
/-- one day -/
theorem L_day (hj : j < 12) (h0 : μ 9 j 0 = nI s) (hT : ST μ s (rO c0 b ν) E P C O) (H : SH μ j (rO c0 b ν) E P C O n w t dd) (hI : CI (rO c0 b ν) C O n) (hd : dd + 1 ≤ 20000) {x1 x2 x3 : Int32} (hx : ¬ x1 ≤ x3) :
    ∃ m v w', s_Shop_passDays_7 j x1 x2 x3 μ = some (.inl (x3 + 1, m)) ∧ f_Own_passes b ν = some v ∧ SH m j (rO c0 b v) E P C O n w' t (dd + 1) ∧ FrC j μ m ∧ FrO c0 b ν v ∧ CI (rO c0 b v) C O n ∧ OVD (rO c0 b v) n (dd + 1) := by
  have hT0 := hT
  obtain ⟨hs, hE, hP, hC, hO, -, -, -, ⟨t7, t9⟩, -⟩ := hT
  have hn : n ≤ 24 := H.1.1
  obtain ⟨-, -, -, -, s1, a5, -⟩ := H.1
  have F1 : FrC j μ (st3 μ 9 j 1 (nI (dd + 1))) := FrC.rf.st9 (by omega)
  have F2 : FrO c0 b ν (st3 ν 60 b 5 (nI (dd + 1))) := FrO.rf.up (sto_0 (by omega)) (dyn_q (by omega)) (by rw [st3_K (by omega)])
  have H1 : SH (st3 μ 9 j 1 (nI (dd + 1))) j (rO c0 b (st3 ν 60 b 5 (nI (dd + 1)))) E P C O n w t (dd + 1) := by
    rw [sto_0 (by omega)]
    exact H.setS hC hO (fun K hK => by rw [st3_K hK]) (fun k hk => ua_N (by omega)) (by rw [st3_ua]; exact Ss_day hd H.1)
  have I1 : CI (rO c0 b (st3 ν 60 b 5 (nI (dd + 1)))) C O n := by
    rw [sto_0 (by omega)]
    exact hI.skip hC hO hn (by unfold irr; omega)
  obtain ⟨m2, v2, e2, g2, H2, F12, F22, I2, V2⟩ := L_over hC hO H1 I1
  have G1 := F1.tr F12
  have G2 := F2.tr F22
  obtain ⟨m3, v3, e3, g3, H3, F13, F23, I3, V3⟩ := L_owls hC hO hn ((G2.1 9 (by unfold dynI; omega)).trans t9) H2 I2 V2
  have G1 := G1.tr F13
  have G2 := G2.tr F23
  obtain ⟨m4, v4, w', e4, g4, H4, F14, F24, I4, V4⟩ := L_counter hj (G1.2.trans h0) (hT0.fro G1 G2) H3 I3 V3 x1 x2 x3
  refine ⟨m4, v4, w', ?_, ?_, H4, G1.tr F14, G2.tr F24, I4, V4⟩
  · unfold s_Shop_passDays_7
    rw [if_neg hx, s1, nI_1, nm_9, e2, bind_s, e3, bind_s, e4]
    rfl
  · unfold f_Own_passes
    have o5 : ν 60 b 5 = nI dd := (ro_0 (c0 := c0) (by omega)).symm.trans a5
    rw [o5, nI_1, nm_9, g2, bind_s, g3, bind_s, g4]
/-- n days of the law's own shop -/
def psN (b : Nat) : Nat → Mem → Option Mem
  | 0, v => some v
  | k + 1, v => (psN b k v).bind (f_Own_passes b)
/-- k days -/
theorem L_days (hj : j < 12) (h0 : μ 9 j 0 = nI s) (hT : ST μ s (rO c0 b ν) E P C O) (H : SH μ j (rO c0 b ν) E P C O n w t dd) (hI : CI (rO c0 b ν) C O n) (hV : OVD (rO c0 b ν) n dd) (k : Nat) (hd : dd + k ≤ 20000) :
    ∃ m v w', f_Shop_passDays j (nI k) μ = some (m 9 j 13 - μ 9 j 13, m) ∧ psN b k ν = some v ∧ SH m j (rO c0 b v) E P C O n w' t (dd + k) ∧ FrC j μ m ∧ FrO c0 b ν v ∧ CI (rO c0 b v) C O n ∧ OVD (rO c0 b v) n (dd + k) := by
  unfold f_Shop_passDays
  rw [nm_9]
  refine it_fr (f := fun q : Int32 × Mem => s_Shop_passDays_7 j (nI k) (μ 9 j 13) q.1 q.2) (s := (0, μ))
    (fun i a => ∃ m v w', a = (nI i, m) ∧ psN b i ν = some v ∧ SH m j (rO c0 b v) E P C O n w' t (dd + i) ∧ FrC j μ m ∧ FrO c0 b ν v ∧ CI (rO c0 b v) C O n ∧ OVD (rO c0 b v) n (dd + i)) (fun m => ∃ v w', psN b k ν = some v ∧ SH m j (rO c0 b v) E P C O n w' t (dd + k) ∧ FrC j μ m ∧ FrO c0 b ν v ∧ CI (rO c0 b v) C O n ∧ OVD (rO c0 b v) n (dd + k)) k 0 (by omega) (by omega) ⟨μ, ν, w, rfl, rfl, H, FrC.rf, FrO.rf, hI, hV⟩ ?_ ?_ (fun m e1 e3 => by obtain ⟨v, w', e2, e4⟩ := e3; exact ⟨m, v, w', by rw [e1]; rfl, e2, e4⟩)
  · rintro i hi _ ⟨m, v, w', rfl, ep, H, F1, F2, hI, hV⟩
    obtain ⟨m', v', w'', e1, e2, H', F1', F2', hI', hV'⟩ := L_day hj (F1.2.trans h0) (hT.fro F1 F2) H hI (by omega) (x1 := nI k) (x2 := μ 9 j 13) (x3 := nI i) (nI_ge hi (by omega))
    exact ⟨_, e1, m', v', w'', by rw [nI_1], by show (psN b i ν).bind _ = _; rw [ep, bind_s]; exact e2, H', F1.tr F1', F2.tr F2', hI', hV'⟩
  · rintro _ ⟨m, v, w', rfl, ep, H, F1, F2, hI, hV⟩
    refine ⟨m, ?_, v, w', ep, H, F1, F2, hI, hV⟩
    show s_Shop_passDays_7 j (nI k) (μ 9 j 13) (nI k) m = _
    unfold s_Shop_passDays_7
    rw [if_pos (nI_le (Nat.le_refl _) (by omega))]
end Counter

/-! Shares, means, contradictions. -/
theorem okF9_div {x y : Int32} (hy : y ≠ 0) : okF9 (FP.fdiv (FP.i2f x) (FP.i2f y)) = true := by
  have hx := FP.Core.i2f_fin x
  have hz : ¬ FP.Core.FZero (FP.Core.i2f y) := by
    rw [FP.Core.zero_bits232]; exact FP.Core.i2f_ne_zero hy
  have hxn : FP.Core.fIsNaN (FP.Core.i2f x) = false := by
    cases hq : FP.Core.fIsNaN (FP.Core.i2f x) with
    | false => rfl
    | true =>
      rw [FP.Core.isNaN_bits32] at hq
      have := (FP.Core.fin_bits32 _).mp hx
      omega
  have h1 : FP.Core.fIsNaN (FP.Core.fdiv (FP.Core.i2f x) (FP.Core.i2f y)) = false := FP.Core.fdiv_out hxn (FP.Core.i2f_fin y) hz
  have h2 : ¬ 2139095040 < (FP.Core.fdiv (FP.Core.i2f x) (FP.Core.i2f y)).toNat % 2 ^ 31 := by
    rw [← FP.Core.isNaN_bits32, h1]; decide
  refine decide_eq_true ?_
  show FP.Core.fdiv (FP.Core.i2f x) (FP.Core.i2f y) &&& 0x7fffffff ≤ 0x7f800000
  rw [UInt32.le_iff_toNat_le, UInt32.toNat_and]
  have e : (0x7fffffff : UInt32).toNat = 2 ^ 31 - 1 := by decide
  rw [e, Nat.and_two_pow_sub_one_eq_mod]
  show _ ≤ 2139095040
  omega
theorem okD9_div {x y : Int32} (hy : y ≠ 0) : okD9 (FP.ddiv (FP.i2d x) (FP.i2d y)) = true := by
  have hx := FP.Core.i2d_fin x
  have hz : ¬ FP.Core.DZero (FP.Core.i2d y) := by
    rw [FP.Core.zero_bits2]; exact FP.Core.i2d_ne_zero hy
  have hxn : FP.Core.dIsNaN (FP.Core.i2d x) = false := by
    cases hq : FP.Core.dIsNaN (FP.Core.i2d x) with
    | false => rfl
    | true =>
      rw [FP.Core.isNaN_bits] at hq
      have := (FP.Core.fin_bits _).mp hx
      omega
  have h1 : FP.Core.dIsNaN (FP.Core.ddiv (FP.Core.i2d x) (FP.Core.i2d y)) = false := FP.Core.ddiv_out hxn (FP.Core.i2d_fin y) hz
  have h2 : ¬ 9218868437227405312 < (FP.Core.ddiv (FP.Core.i2d x) (FP.Core.i2d y)).toNat % 2 ^ 63 := by
    rw [← FP.Core.isNaN_bits, h1]; decide
  refine decide_eq_true ?_
  show FP.Core.ddiv (FP.Core.i2d x) (FP.Core.i2d y) &&& 0x7fffffffffffffff ≤ 0x7ff0000000000000
  rw [UInt64.le_iff_toNat_le, UInt64.toNat_and]
  have e : (0x7fffffffffffffff : UInt64).toNat = 2 ^ 63 - 1 := by decide
  rw [e, Nat.and_two_pow_sub_one_eq_mod]
  show _ ≤ 9218868437227405312
  omega
section Shares
variable {μ ν : Mem} {s E P C O n w t dd h L : Nat} {π : Nat → Nat}
theorem T_truthShare (hG : GR μ ν) : RdF μ ν (f_P_truthShare μ) (f_R_truthShare ν) := by
  have hG0 := hG
  obtain ⟨s, E, P, C, O, n, w, t, dd, h, π, L, H⟩ := hG
  obtain ⟨hn, -, -, -, s1, a5, -, s5, a10, -⟩ := H.2.2.2.1.1
  have hp := H.2.2.2.1.2.1
  have n40 : (st3 ν 13 0 7 0) 40 = ν 40 := st3_K (by omega)
  have eC : ∀ y, f_Shop_countWithState 0 y μ = some (nI (cnt (ν 40 0) y n)) := fun y => C_count s5 hn hp
  have eR : ∀ y, f_R_manyIn y (st3 ν 13 0 7 0) = some (nI (cnt (ν 40 0) y n)) := fun y => by
    have := R_many (ν := st3 ν 13 0 7 0) (x := y) (n := n) (by rw [n40]; exact a10) hn
    rw [n40] at this; exact this
  by_cases c : nI n - nI (cnt (ν 40 0) 0 n) = 0
  · refine rd_F hG0 (r := FP.fconst0) ?_ ?_
    · unfold f_P_truthShare
      rw [eC, bind_s, nm_9, s5, if_pos c]
    · unfold f_R_truthShare
      rw [nm_9, ib_10_524, chk_t, tn_10, n40, a10, eR, bind_s, nm_9, if_pos c]
  · refine rd_F hG0 (r := FP.fdiv (FP.i2f (nI (cnt (ν 40 0) 1 n))) (FP.i2f (nI n - nI (cnt (ν 40 0) 0 n)))) ?_ ?_
    · unfold f_P_truthShare
      rw [eC, bind_s, nm_9, s5, if_neg c, eC, bind_s, chk_of (okF9_div c)]
    · unfold f_R_truthShare
      rw [nm_9, ib_10_524, chk_t, tn_10, n40, a10, eR, bind_s, nm_9, if_neg c, eR, bind_s, chk_of (okF9_div c)]
theorem T_meanPrice (hG : GR μ ν) : RdF μ ν (f_P_meanPrice μ) (f_R_meanPrice ν) := by
  have hG0 := hG
  obtain ⟨s, E, P, C, O, n, w, t, dd, h, π, L, H⟩ := hG
  obtain ⟨hn, -, -, -, s1, a5, -, s5, a10, -⟩ := H.2.2.2.1.1
  have hp := H.2.2.2.1.2.1
  have n40 : (st3 ν 13 0 7 0) 40 = ν 40 := st3_K (by omega)
  have eC : f_Shop_sumOfPrices 0 μ = some (sm (fun p => ν 40 0 (80 + 10 * p + 6)) n) := by
    unfold f_Shop_sumOfPrices
    rw [it_sum (fun p => ν 40 0 (80 + 10 * p + 6)) n (by omega) (fun i hi x => ?_) (fun x => ?_), bind_s, zadd]
    · show s_Shop_sumOfPrices_4 0 x (nI i) μ = _
      unfold s_Shop_sumOfPrices_4
      have q6 : μ 5 (24 * 0 + i) 6 = ν 40 0 (80 + 10 * i + 6) := (hp i hi).2.2.2.2.2.1
      rw [s5, if_neg (nI_ge hi (by omega)), chk_of (inb_of (by omega) (by omega)), nI_clamp (by omega), q6, nm_9, nI_1]
    · show s_Shop_sumOfPrices_4 0 x (nI n) μ = _
      unfold s_Shop_sumOfPrices_4
      rw [s5, if_pos (nI_le (Nat.le_refl _) (by omega))]
  have eR : it (fun (s : Int32 × Int32) => s_R_meanPrice_9 s.1 s.2 (st3 ν 13 0 7 0)) LIM ((0, 0)) = some (sm (fun p => ν 40 0 (80 + 10 * p + 6)) n) := by
    rw [it_sum (fun p => ν 40 0 (80 + 10 * p + 6)) n (by omega) (fun i hi x => ?_) (fun x => ?_), zadd]
    · show s_R_meanPrice_9 x (nI i) (st3 ν 13 0 7 0) = _
      unfold s_R_meanPrice_9
      rw [ib_10_524, chk_t, tn_10, n40, a10, if_neg (nI_ge hi (by omega)), R_of6 (by omega), bind_s, nm_9, nI_1, n40]
    · show s_R_meanPrice_9 x (nI n) (st3 ν 13 0 7 0) = _
      unfold s_R_meanPrice_9
      rw [ib_10_524, chk_t, tn_10, n40, a10, if_pos (nI_le (Nat.le_refl _) (by omega))]
  by_cases c : nI n = 0
  · refine rd_F hG0 (r := FP.dconst0) ?_ ?_
    · unfold f_P_meanPrice
      rw [nm_9, s5, if_pos c]
    · unfold f_R_meanPrice
      rw [nm_9, eR, bind_s, ib_10_524, chk_t, tn_10, n40, a10, if_pos c]
  · refine rd_F hG0 (r := FP.ddiv (FP.i2d (sm (fun p => ν 40 0 (80 + 10 * p + 6)) n)) (FP.i2d (nI n))) ?_ ?_
    · unfold f_P_meanPrice
      rw [nm_9, s5, if_neg c, eC, bind_s, chk_of (okD9_div c)]
    · unfold f_R_meanPrice
      rw [nm_9, eR, bind_s, ib_10_524, chk_t, tn_10, n40, a10, if_neg c, chk_t, chk_of (okD9_div c)]
def late (a : Nat → Int32) (n : Nat) : Nat := ct (fun p => decide (a (80 + 10 * p + 7) = 0) && decide (¬ a 5 ≤ a (80 + 10 * p + 5))) n
def paidS (a : Nat → Int32) (n : Nat) : Int32 := sm (fun p => if a (80 + 10 * p + 7) = 3 then rfd a (80 + 10 * p) else 0) n
def coinS (a : Nat → Int32) (C O : Nat) : Int32 := a 0 + sm (fun c => a (28 + 3 * c + 1)) C + sm (fun o => a (52 + 5 * o + 2)) O
theorem T_contradictions (hG : GR μ ν) : Rd0 μ ν (f_P_contradictions μ) (f_R_contradictions ν) := by
  have hG0 := hG
  obtain ⟨s, E, P, C, O, n, w, t, dd, h, π, L, H⟩ := hG
  obtain ⟨e1, e2⟩ := H.s12
  have hT := H.2.2.1
  have h0 := H.2.1
  obtain ⟨hs, hE, hP, hC, hO, -, -, ⟨t8, a8⟩, ⟨t9, a9⟩, -, -, -, -, -, -, -, -, a15⟩ := H.2.2.1
  obtain ⟨hn, -, -, -, s1, a5, s2, s5, a10, -, -, -, -, -, s14⟩ := H.2.2.2.1.1
  have hp := H.2.2.2.1.2.1
  have ho := H.2.2.2.1.2.2.1
  have hc := H.2.2.2.1.2.2.2.1
  have n40 : (st3 ν 13 0 7 0) 40 = ν 40 := st3_K (by omega)
  have c1 : f_Setup_sumOfCoins s μ = some (ν 40 0 15) := by
    unfold f_Setup_sumOfCoins
    rw [nm_9, it_sum (μ 24 s) C (by omega) (fun i hi x => ?_) (fun x => ?_), bind_s, a15]
    · show s_Setup_sumOfCoins_7 s x (nI i) μ = _
      unfold s_Setup_sumOfCoins_7 f_Setup_firstCoinsOf
      rw [t8, if_neg (nI_ge hi (by omega)), C_has t8, bind_s, ixB_in (by omega) hi, if_neg (by decide), chk_of (inb_of (by omega) (by omega)), nI_clamp (by omega), bind_s, nm_9, nI_1]
    · show s_Setup_sumOfCoins_7 s x (nI C) μ = _
      unfold s_Setup_sumOfCoins_7
      rw [t8, if_pos (nI_le (Nat.le_refl _) (by omega))]
  have c2 : f_Shop_sumOfCoins 0 μ = some (coinS (ν 40 0) C O) := by
    unfold f_Shop_sumOfCoins
    rw [nm_9, it_sum (μ 27 0) 8 (by omega) (fun i hi x => ?_) (fun x => ?_), bind_s, it_sum (fun o => μ 4 (5 * 0 + o) 1) 5 (by omega) (fun i hi x => ?_) (fun x => ?_), bind_s]
    · have k1 := sm_ext (g := μ 27 0) (m := C) (k := 8 - C) (fun i h1 h2 => hc.2 i h1 (by omega))
      have k2 := sm_ext (g := fun o => μ 4 (5 * 0 + o) 1) (m := O) (k := 5 - O) (fun i h1 h2 => (ho.2 i h1 (by omega)).2.1)
      rw [show C + (8 - C) = 8 by omega] at k1
      rw [show O + (5 - O) = 5 by omega] at k2
      have k3 : sm (μ 27 0) C = sm (fun c => ν 40 0 (28 + 3 * c + 1)) C := sm_congr (fun i hi => hc.1 i hi)
      have k4 : sm (fun o => μ 4 (5 * 0 + o) 1) O = sm (fun o => ν 40 0 (52 + 5 * o + 2)) O := sm_congr (fun i hi => (ho.1 i hi).2.1)
      rw [k1, k2, k3, k4, s2]
      rfl
    · show s_Shop_sumOfCoins_30 0 x (nI i) μ = _
      unfold s_Shop_sumOfCoins_30
      rw [if_neg (gl_5 hi), chk_of (inb_of hi (by omega)), nI_clamp (by omega), nm_9, nI_1]
    · show s_Shop_sumOfCoins_30 0 x (nI 5) μ = _
      unfold s_Shop_sumOfCoins_30
      rw [if_pos (lg_5 (Nat.le_refl _) (by omega))]
    · show s_Shop_sumOfCoins_7 0 x (nI i) μ = _
      unfold s_Shop_sumOfCoins_7
      rw [if_neg (gl_8 hi), chk_of (inb_of hi (by omega)), nI_clamp (by omega), nm_9, nI_1]
    · show s_Shop_sumOfCoins_7 0 x (nI 8) μ = _
      unfold s_Shop_sumOfCoins_7
      rw [if_pos (lg_8 (Nat.le_refl _) (by omega))]
  have c3 : f_Shop_sumOfRefunds 0 μ = some (paidS (ν 40 0) n) := by
    unfold f_Shop_sumOfRefunds
    rw [it_sum (fun p => if ν 40 0 (80 + 10 * p + 7) = 3 then rfd (ν 40 0) (80 + 10 * p) else 0) n (by omega) (fun i hi x => ?_) (fun x => ?_), bind_s, zadd]
    · rfl
    · show s_Shop_sumOfRefunds_4 0 x (nI i) μ = _
      unfold s_Shop_sumOfRefunds_4
      have q7 : μ 5 (24 * 0 + i) 7 = ν 40 0 (80 + 10 * i + 7) := (hp i hi).2.2.2.2.2.2.1
      rw [s5, if_neg (nI_ge hi (by omega)), chk_of (inb_of (by omega) (by omega)), chk_of (inb_of (by omega) (by omega)), nI_clamp (by omega), q7, C_refundFor h0 hT (hp i hi), bind_s, nm_9, nI_1]
      by_cases c : ν 40 0 (80 + 10 * i + 7) = 3
      · rw [if_pos c, if_pos c]
      · rw [if_neg c, if_neg c, Int32.add_zero]
    · show s_Shop_sumOfRefunds_4 0 x (nI n) μ = _
      unfold s_Shop_sumOfRefunds_4
      rw [s5, if_pos (nI_le (Nat.le_refl _) (by omega))]
  have c4 : f_Shop_countOverdue 0 μ = some (nI (late (ν 40 0) n)) := by
    unfold f_Shop_countOverdue late
    rw [it_ct (fun p => decide (ν 40 0 (80 + 10 * p + 7) = 0) && decide (¬ ν 40 0 5 ≤ ν 40 0 (80 + 10 * p + 5))) n (by omega) (fun i hi x => ?_) (fun x => ?_), bind_s]
    · show s_Shop_countOverdue_4 0 x (nI i) μ = _
      unfold s_Shop_countOverdue_4
      obtain ⟨-, -, -, -, ⟨d, -, q5, b5⟩, -, q7, -⟩ := hp i hi
      replace q7 : μ 5 (24 * 0 + i) 7 = ν 40 0 (80 + 10 * i + 7) := q7
      replace q5 : μ 5 (24 * 0 + i) 5 = ν 40 0 (80 + 10 * i + 5) := q5.trans b5.symm
      rw [s5, if_neg (nI_ge hi (by omega)), chk_of (inb_of (by omega) (by omega)), nI_clamp (by omega), C_isOverdue, bind_s, q7, q5, s1.trans a5.symm, nI_1]
      by_cases k1 : ν 40 0 (80 + 10 * i + 7) = 0 <;> by_cases k2 : ν 40 0 5 ≤ ν 40 0 (80 + 10 * i + 5) <;> simp [-Nat.add_zero, -Int32.not_le, k1, k2]
    · show s_Shop_countOverdue_4 0 x (nI n) μ = _
      unfold s_Shop_countOverdue_4
      rw [s5, if_pos (nI_le (Nat.le_refl _) (by omega))]
  have r1 : it (fun (s : Int32 × Int32) => s_R_contradictions_19 0 0 s.1 s.2 (st3 ν 13 0 7 0)) LIM ((ν 40 0 0, 0)) = some (ν 40 0 0 + sm (fun c => ν 40 0 (28 + 3 * c + 1)) C) := by
    rw [it_sum (fun c => ν 40 0 (28 + 3 * c + 1)) C (by omega) (fun i hi x => ?_) (fun x => ?_)]
    · show s_R_contradictions_19 0 0 x (nI i) (st3 ν 13 0 7 0) = _
      unfold s_R_contradictions_19
      rw [ib_8_524, chk_t, tn_8, n40, a8, if_neg (nI_ge hi (by omega)), R_ofCustomer1 (by omega), bind_s, nm_9, nI_1, n40]
    · show s_R_contradictions_19 0 0 x (nI C) (st3 ν 13 0 7 0) = _
      unfold s_R_contradictions_19
      rw [ib_8_524, chk_t, tn_8, n40, a8, if_pos (nI_le (Nat.le_refl _) (by omega))]
  have r2 : it (fun (s : Int32 × Int32) => s_R_contradictions_50 0 0 s.1 s.2 (st3 ν 13 0 7 0)) LIM ((ν 40 0 0 + sm (fun c => ν 40 0 (28 + 3 * c + 1)) C, 0)) = some (coinS (ν 40 0) C O) := by
    rw [it_sum (fun o => ν 40 0 (52 + 5 * o + 2)) O (by omega) (fun i hi x => ?_) (fun x => ?_)]
    · rfl
    · show s_R_contradictions_50 0 0 x (nI i) (st3 ν 13 0 7 0) = _
      unfold s_R_contradictions_50
      rw [ib_9_524, chk_t, tn_9, n40, a9, if_neg (nI_ge hi (by omega)), R_ofOwl2 (by omega), bind_s, nm_9, nI_1, n40]
    · show s_R_contradictions_50 0 0 x (nI O) (st3 ν 13 0 7 0) = _
      unfold s_R_contradictions_50
      rw [ib_9_524, chk_t, tn_9, n40, a9, if_pos (nI_le (Nat.le_refl _) (by omega))]
  have r3 : it (fun (s : Int32 × Int32 × Int32) => s_R_contradictions_81 (coinS (ν 40 0) C O) s.1 s.2.1 s.2.2 (st3 ν 13 0 7 0)) LIM ((0, 0, 0)) = some (paidS (ν 40 0) n, nI (late (ν 40 0) n)) := by
    refine it_fr (f := fun (s : Int32 × Int32 × Int32) => s_R_contradictions_81 (coinS (ν 40 0) C O) s.1 s.2.1 s.2.2 (st3 ν 13 0 7 0)) (s := (0, 0, 0)) (fun i q => q = (paidS (ν 40 0) i, nI (late (ν 40 0) i), nI i)) (fun q => q = (paidS (ν 40 0) n, nI (late (ν 40 0) n))) n 0 (by omega) (by omega) rfl ?_ ?_ (fun r q1 q2 => by rw [q1, q2])
    · rintro i hi _ rfl
      show ∃ s', s_R_contradictions_81 (coinS (ν 40 0) C O) (paidS (ν 40 0) i) (nI (late (ν 40 0) i)) (nI i) (st3 ν 13 0 7 0) = some (.inl s') ∧ _
      unfold s_R_contradictions_81
      rw [ib_10_524, chk_t, tn_10, n40, a10, if_neg (nI_ge hi (by omega)), R_of7 (by omega), bind_s, R_refund (by omega), bind_s, nm_9, n40]
      have q3 : (if ν 40 0 (80 + 10 * i + 7) = 3 then some (paidS (ν 40 0) i + rfd (ν 40 0) (80 + 10 * i)) else some (paidS (ν 40 0) i) : Option Int32) = some (paidS (ν 40 0) (i + 1)) := by
        show _ = some (paidS (ν 40 0) i + (if ν 40 0 (80 + 10 * i + 7) = 3 then rfd (ν 40 0) (80 + 10 * i) else 0))
        split
        · rfl
        · rw [Int32.add_zero]
      rw [q3, bind_s, bind_s, R_of5 (by omega), bind_s, ib_5_524, chk_t, tn_5, n40, nI_1, nI_1]
      have q4 : nI (late (ν 40 0) (i + 1)) = nI (late (ν 40 0) i + (if (decide (ν 40 0 (80 + 10 * i + 7) = 0) && decide (¬ ν 40 0 5 ≤ ν 40 0 (80 + 10 * i + 5))) = true then 1 else 0)) := rfl
      by_cases k1 : ν 40 0 (80 + 10 * i + 7) = 0
      · rw [if_pos k1]
        by_cases k2 : ν 40 0 5 ≤ ν 40 0 (80 + 10 * i + 5)
        · rw [if_pos k2]
          refine ⟨_, rfl, ?_⟩
          rw [q4, if_neg (by rw [decide_eq_true k1, decide_eq_false (by exact fun z => z k2)]; decide)]
          rfl
        · rw [if_neg k2]
          refine ⟨_, rfl, ?_⟩
          rw [q4, if_pos (by rw [decide_eq_true k1, decide_eq_true k2]; rfl)]
      · rw [if_neg k1]
        refine ⟨_, rfl, ?_⟩
        rw [q4, if_neg (by rw [decide_eq_false k1, Bool.false_and]; decide)]
        rfl
    · rintro _ rfl
      show ∃ r, s_R_contradictions_81 (coinS (ν 40 0) C O) (paidS (ν 40 0) n) (nI (late (ν 40 0) n)) (nI n) (st3 ν 13 0 7 0) = some (.inr r) ∧ _
      unfold s_R_contradictions_81
      rw [ib_10_524, chk_t, tn_10, n40, a10, if_pos (nI_le (Nat.le_refl _) (by omega))]
      exact ⟨_, rfl, rfl⟩
  have fin : ∀ a b c : Int32, a + b + c = c + a + b := fun a b c => by rw [Int32.add_comm c a, Int32.add_assoc, Int32.add_assoc, Int32.add_comm b c]
  refine rd_0 hG0 (r := nI (late (ν 40 0) n) + (if 0 ≤ ν 40 0 15 - coinS (ν 40 0) C O then ν 40 0 15 - coinS (ν 40 0) C O else 0 - (ν 40 0 15 - coinS (ν 40 0) C O)) + (if 0 ≤ ν 40 0 14 - paidS (ν 40 0) n then ν 40 0 14 - paidS (ν 40 0) n else 0 - (ν 40 0 14 - paidS (ν 40 0) n))) ?_ ?_
  · unfold f_P_contradictions
    rw [e1, e2, chk_t, c1, bind_s, c2, bind_s, c3, bind_s, c4, bind_s, s14, fin]
  · unfold f_R_contradictions
    rw [nm_9, ib_0_524, chk_t, tn_0, nm_9, n40, r1, bind_s, r2, bind_s, r3, bind_s, ib_15_524, ib_14_524, chk_t, chk_t, tn_15, tn_14]
end Shares

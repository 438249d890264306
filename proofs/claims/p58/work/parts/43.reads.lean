/-! What only looks: counts, sums, shares. -/
theorem sm_ext {g : Nat → Int32} {m : Nat} : ∀ {k : Nat}, (∀ i, m ≤ i → i < m + k → g i = 0) → sm g (m + k) = sm g m
  | 0, _ => rfl
  | k + 1, h => by
    show sm g (m + k) + g (m + k) = _
    rw [sm_ext (fun i h1 h2 => h i h1 (by omega)), h (m + k) (by omega) (by omega), Int32.add_zero]
theorem zadd (x : Int32) : (0 : Int32) + x = x := Int32.zero_add x
/-! Shares, means, contradictions. -/
theorem okF9_div {x y : Int32} (hy : y ≠ 0) : okF9 (FP.fdiv (FP.i2f x) (FP.i2f y)) = true := by
  have hx := FP.Core.i2f_fin x
  have hz : ¬ FP.Core.FZero (FP.Core.i2f y) := by
    rw [FP.Core.zero_bits232]; exact FP.Core.i2f_ne_zero hy
  have hxn : FP.Core.fIsNaN (FP.Core.i2f x) = false := by
    cases hq : FP.Core.fIsNaN (FP.Core.i2f x) with
    | false => rfl
    | true =>
      rw [FP.Core.isNaN_bits32] at hq
      have := (FP.Core.fin_bits32 _).mp hx
      omega
  have h1 : FP.Core.fIsNaN (FP.Core.fdiv (FP.Core.i2f x) (FP.Core.i2f y)) = false := FP.Core.fdiv_out hxn (FP.Core.i2f_fin y) hz
  have h2 : ¬ 2139095040 < (FP.Core.fdiv (FP.Core.i2f x) (FP.Core.i2f y)).toNat % 2 ^ 31 := by
    rw [← FP.Core.isNaN_bits32, h1]; decide
  refine decide_eq_true ?_
  show FP.Core.fdiv (FP.Core.i2f x) (FP.Core.i2f y) &&& 0x7fffffff ≤ 0x7f800000
  rw [UInt32.le_iff_toNat_le, UInt32.toNat_and]
  have e : (0x7fffffff : UInt32).toNat = 2 ^ 31 - 1 := by decide
  rw [e, Nat.and_two_pow_sub_one_eq_mod]
  show _ ≤ 2139095040
  omega
theorem okD9_div {x y : Int32} (hy : y ≠ 0) : okD9 (FP.ddiv (FP.i2d x) (FP.i2d y)) = true := by
  have hx := FP.Core.i2d_fin x
  have hz : ¬ FP.Core.DZero (FP.Core.i2d y) := by
    rw [FP.Core.zero_bits2]; exact FP.Core.i2d_ne_zero hy
  have hxn : FP.Core.dIsNaN (FP.Core.i2d x) = false := by
    cases hq : FP.Core.dIsNaN (FP.Core.i2d x) with
    | false => rfl
    | true =>
      rw [FP.Core.isNaN_bits] at hq
      have := (FP.Core.fin_bits _).mp hx
      omega
  have h1 : FP.Core.dIsNaN (FP.Core.ddiv (FP.Core.i2d x) (FP.Core.i2d y)) = false := FP.Core.ddiv_out hxn (FP.Core.i2d_fin y) hz
  have h2 : ¬ 9218868437227405312 < (FP.Core.ddiv (FP.Core.i2d x) (FP.Core.i2d y)).toNat % 2 ^ 63 := by
    rw [← FP.Core.isNaN_bits, h1]; decide
  refine decide_eq_true ?_
  show FP.Core.ddiv (FP.Core.i2d x) (FP.Core.i2d y) &&& 0x7fffffffffffffff ≤ 0x7ff0000000000000
  rw [UInt64.le_iff_toNat_le, UInt64.toNat_and]
  have e : (0x7fffffffffffffff : UInt64).toNat = 2 ^ 63 - 1 := by decide
  rw [e, Nat.and_two_pow_sub_one_eq_mod]
  show _ ≤ 9218868437227405312
  omega
def late (a : Nat → Int32) (n : Nat) : Nat := ct (fun p => decide (a (80 + 10 * p + 7) = 0) && decide (¬ a 5 ≤ a (80 + 10 * p + 5))) n
def paidS (a : Nat → Int32) (n : Nat) : Int32 := sm (fun p => if a (80 + 10 * p + 7) = 3 then rfd a (80 + 10 * p) else 0) n
def coinS (a : Nat → Int32) (C O : Nat) : Int32 := a 0 + sm (fun c => a (28 + 3 * c + 1)) C + sm (fun o => a (52 + 5 * o + 2)) O
section Reads
variable {c0 : Int32} {μ v : Mem} {s b E P C O n w t dd : Nat}
theorem P_with (hQ : QS c0 μ 0 s b v E P C O n w t dd) {k : Nat} (hk : k < n) : f_P_prophecyWith (nI k) μ = some (24 * 0 + k) := by
  obtain ⟨hn, -, -, -, -, -, -, s5, -⟩ := hQ.2.2.1.1
  unfold f_P_prophecyWith
  rw [C_hasSold s5 hn, ixB_in (by omega) hk, bind_s]
  unfold f_P_throwIfMissing
  rw [if_neg (by decide), bind_s, C_prophecyWith s5 hn hk, bind_s, chk_of (decide_eq_true (by omega))]
theorem P_row (hQ : QS c0 μ 0 s b v E P C O n w t dd) {k : Nat} (hk : k < n) : rowP (μ 5 (24 * 0 + k)) (rO c0 b v) (80 + 10 * k) E P C := hQ.2.2.1.2.1 k hk
theorem P_lt (hQ : QS c0 μ 0 s b v E P C O n w t dd) {k : Nat} (hk : k < n) : k < 24 := by
  have := hQ.2.2.1.1.1
  omega
theorem P_customerOf (hQ : QS c0 μ 0 s b v E P C O n w t dd) {k : Nat} (hk : k < n) : f_P_customerOf (nI k) μ = some (v 68 b k) := by
  obtain ⟨⟨c, -, q0, b0⟩, -⟩ := P_row hQ hk
  have := P_lt hQ hk
  unfold f_P_customerOf
  rw [P_with hQ hk, bind_s, chk_of (decide_eq_true (by omega)), q0, ← b0, ro_p0 this]
theorem P_eventOf (hQ : QS c0 μ 0 s b v E P C O n w t dd) {k : Nat} (hk : k < n) : f_P_eventOf (nI k) μ = some (v 69 b k) := by
  obtain ⟨-, ⟨c, -, q0, b0⟩, -⟩ := P_row hQ hk
  have := P_lt hQ hk
  unfold f_P_eventOf
  rw [P_with hQ hk, bind_s, chk_of (decide_eq_true (by omega)), q0, ← b0, ro_p1 this]
theorem P_placeOf (hQ : QS c0 μ 0 s b v E P C O n w t dd) {k : Nat} (hk : k < n) : f_P_placeOf (nI k) μ = some (v 70 b k) := by
  obtain ⟨-, -, hkk, -⟩ := P_row hQ hk
  have h24 := P_lt hQ hk
  have e : μ 5 (24 * 0 + k) 3 = v 70 b k := by
    rw [← ro_p2 (c0 := c0) (v := v) h24]
    rcases hkk with ⟨-, g, g', -⟩ | ⟨-, ⟨l, -, g, g'⟩, -⟩ | ⟨-, ⟨l, -, g, g'⟩, -⟩ <;> rw [g, g']
  unfold f_P_placeOf
  rw [P_with hQ hk, bind_s, chk_of (decide_eq_true (by omega)), e]
theorem P_isDenial (hQ : QS c0 μ 0 s b v E P C O n w t dd) {k : Nat} (hk : k < n) : f_P_isDenial (nI k) μ = some (v 78 b k) := by
  obtain ⟨-, -, hkk, -⟩ := P_row hQ hk
  have h24 := P_lt hQ hk
  have e : (if μ 5 (24 * 0 + k) 1 = 2 then some 1 else some 0 : Option Int32) = some (v 78 b k) := by
    rw [← ro_p3 (c0 := c0) (v := v) h24]
    rcases hkk with ⟨g, -, -, g'⟩ | ⟨g, -, g'⟩ | ⟨g, -, g'⟩ <;> rw [g, g'] <;> rfl
  unfold f_P_isDenial
  rw [P_with hQ hk, bind_s, chk_of (decide_eq_true (by omega)), e]
theorem P_firstDay (hQ : QS c0 μ 0 s b v E P C O n w t dd) {k : Nat} (hk : k < n) : f_P_firstDay (nI k) μ = some (v 71 b k) := by
  obtain ⟨-, -, -, ⟨d, -, q0, b0⟩, -⟩ := P_row hQ hk
  have := P_lt hQ hk
  unfold f_P_firstDay
  rw [P_with hQ hk, bind_s, chk_of (decide_eq_true (by omega)), q0, ← b0, ro_p4 this]
theorem P_lastDay (hQ : QS c0 μ 0 s b v E P C O n w t dd) {k : Nat} (hk : k < n) : f_P_lastDay (nI k) μ = some (v 72 b k) := by
  obtain ⟨-, -, -, -, ⟨d, -, q0, b0⟩, -⟩ := P_row hQ hk
  have := P_lt hQ hk
  unfold f_P_lastDay
  rw [P_with hQ hk, bind_s, chk_of (decide_eq_true (by omega)), q0, ← b0, ro_p5 this]
theorem P_stateOf (hQ : QS c0 μ 0 s b v E P C O n w t dd) {k : Nat} (hk : k < n) : f_P_stateOf (nI k) μ = some (v 74 b k) := by
  obtain ⟨-, -, -, -, -, -, q7, -⟩ := P_row hQ hk
  have := P_lt hQ hk
  unfold f_P_stateOf
  rw [P_with hQ hk, bind_s, chk_of (decide_eq_true (by omega)), q7, ro_p7 this]
theorem P_decidedOn (hQ : QS c0 μ 0 s b v E P C O n w t dd) {k : Nat} (hk : k < n) (h : ¬ v 74 b k = 0) : f_P_decidedOn (nI k) μ = some (v 75 b k) := by
  obtain ⟨-, -, -, -, -, -, q7, -, q8, -⟩ := P_row hQ hk
  have := P_lt hQ hk
  rw [ro_p7 this] at q7 q8
  unfold f_P_decidedOn
  rw [P_with hQ hk, bind_s, chk_of (decide_eq_true (by omega)), q7, if_neg h, q8 h, ro_p8 this]
theorem P_answerFor (hQ : QS c0 μ 0 s b v E P C O n w t dd) {k : Nat} (hk : k < n) : f_P_answerFor (nI k) μ = some (v 76 b k) := by
  obtain ⟨-, -, -, -, -, -, -, -, -, q9⟩ := P_row hQ hk
  have := P_lt hQ hk
  unfold f_P_answerFor
  rw [P_with hQ hk, bind_s, chk_of (decide_eq_true (by omega)), q9, ro_p9 this]
theorem P_refundOf (hQ : QS c0 μ 0 s b v E P C O n w t dd) {k : Nat} (hk : k < n) : f_P_refundOf (nI k) μ = some (rfd (rO c0 b v) (80 + 10 * k)) := by
  have := P_lt hQ hk
  unfold f_P_refundOf
  rw [P_with hQ hk, bind_s, chk_of (decide_eq_true (by omega)), C_refundFor hQ.1 hQ.2.1 (P_row hQ hk), bind_s]
theorem P_expectedAnswer (hQ : QS c0 μ 0 s b v E P C O n w t dd) {k : Nat} (hk : k < n) : f_P_expectedAnswer (nI k) μ = some (ansr (rO c0 b v) (80 + 10 * k)) := by
  have := P_lt hQ hk
  unfold f_P_expectedAnswer
  rw [P_with hQ hk, bind_s, chk_of (decide_eq_true (by omega)), C_answerTo hQ.1 hQ.2.1 (P_row hQ hk) hQ.2.2.1.1, bind_s]
theorem P_placeInQueue (hQ : QS c0 μ 0 s b v E P C O n w t dd) {k : Nat} (hk : k < n) : f_P_placeInQueue (nI k) μ = some (inq (rO c0 b v) (nI k) w) := by
  obtain ⟨hn, hw, -, -, -, -, -, s5, -, s8, -⟩ := hQ.2.2.1.1
  unfold f_P_placeInQueue
  rw [C_hasSold s5 hn, ixB_in (by omega) hk, bind_s]
  unfold f_P_throwIfMissing
  rw [if_neg (by decide), bind_s, C_requestsBefore s8 hw hQ.2.2.1.2.2.2.2.1, bind_s]
theorem P_untilDecided (hQ : QS c0 μ 0 s b v E P C O n w t dd) {k : Nat} (hk : k < n) : f_P_daysUntilDecided (nI k) μ = some (if v 74 b k = 0 then v 72 b k - v 60 b 5 + 1 else 0) := by
  obtain ⟨-, -, -, -, ⟨d, -, q5, b5⟩, -, q7, -⟩ := P_row hQ hk
  obtain ⟨-, -, -, -, s1, a5, -⟩ := hQ.2.2.1.1
  have h24 := P_lt hQ hk
  rw [ro_p7 h24] at q7
  unfold f_P_daysUntilDecided
  rw [P_with hQ hk, bind_s, chk_of (decide_eq_true (by omega)), q7, q5, s1, ← b5, ← a5, ro_p5 h24, ro_0 (by omega)]
  by_cases c : v 74 b k = 0
  · rw [if_pos c, if_pos c, Int32.sub_eq_add_neg, Int32.sub_eq_add_neg, Int32.add_assoc, Int32.add_comm 1, ← Int32.add_assoc]
  · rw [if_neg c, if_neg c]
-- the shop as a whole
theorem P_s12 (h12 : μ 12 0 3 = nI s) (hs : s < 2) : (μ 12 0 3).toNatClampNeg = s ∧ decide (s < 2) = true := ⟨by rw [h12, nI_clamp (by omega)], decide_eq_true hs⟩
theorem P_purse (h12 : μ 12 0 3 = nI s) (hQ : QS c0 μ 0 s b v E P C O n w t dd) {c : Nat} (hc : c < C) : f_P_purse (nI c) μ = some (v 61 b c) := by
  obtain ⟨hs, hE, hP, hC, hO, -, -, ⟨t5, -⟩, -⟩ := hQ.2.1
  obtain ⟨e1, e2⟩ := P_s12 h12 hs
  unfold f_P_purse f_P_throwIfMissing
  rw [e1, e2, chk_t, C_has t5, ixB_in (by omega) hc, bind_s, if_neg (by decide), bind_s, C_coinsOf (by omega), bind_s, hQ.2.2.1.2.2.2.1.1 c hc, ro_c1 (by omega)]
theorem P_owl (h12 : μ 12 0 3 = nI s) (hQ : QS c0 μ 0 s b v E P C O n w t dd) {o : Nat} (ho : o < O) : (if nI o < 0 then (some (0)) else (chk (decide ((μ 12 0 3).toNatClampNeg < 2)) (if (μ 7 ((μ 12 0 3).toNatClampNeg) 11) ≤ nI o then (some (0)) else (some (1)))) : Option (Int32)) = some 1 := by
  obtain ⟨hs, hE, hP, hC, hO, -, -, -, ⟨t7, -⟩, -⟩ := hQ.2.1
  obtain ⟨e1, e2⟩ := P_s12 h12 hs
  rw [e1, e2, chk_t, t7, if_neg (nI_pos (by omega)), if_neg (nI_ge ho (by omega))]
theorem P_owlDays (h12 : μ 12 0 3 = nI s) (hQ : QS c0 μ 0 s b v E P C O n w t dd) {o : Nat} (ho : o < O) : f_P_owlDays (nI o) μ = some (v 64 b o) := by
  have hO : O ≤ 5 := hQ.2.1.2.2.2.2.1
  obtain ⟨⟨d, -, q0, b1⟩, -⟩ := hQ.2.2.1.2.2.1.1 o ho
  unfold f_P_owlDays f_P_throwIfMissing
  rw [P_owl h12 hQ ho, bind_s, if_neg (by decide), bind_s, C_owlWith (by omega), bind_s, chk_of (decide_eq_true (by omega)), show μ 4 (5 * 0 + o) 0 = nI d from q0, ← b1, ro_o1 (by omega)]
theorem P_owlCoins (h12 : μ 12 0 3 = nI s) (hQ : QS c0 μ 0 s b v E P C O n w t dd) {o : Nat} (ho : o < O) : f_P_owlCoins (nI o) μ = some (v 65 b o) := by
  have hO : O ≤ 5 := hQ.2.1.2.2.2.2.1
  obtain ⟨-, q1, -⟩ := hQ.2.2.1.2.2.1.1 o ho
  unfold f_P_owlCoins f_P_throwIfMissing
  rw [P_owl h12 hQ ho, bind_s, if_neg (by decide), bind_s, C_owlWith (by omega), bind_s, chk_of (decide_eq_true (by omega)), show μ 4 (5 * 0 + o) 1 = _ from q1, ro_o2 (by omega)]
theorem P_day (hQ : QS c0 μ 0 s b v E P C O n w t dd) : f_P_day μ = some (v 60 b 5) := by
  obtain ⟨-, -, -, -, s1, a5, -⟩ := hQ.2.2.1.1
  unfold f_P_day
  rw [s1, ← a5, ro_0 (by omega)]
theorem P_cash (hQ : QS c0 μ 0 s b v E P C O n w t dd) : f_P_cash μ = some (v 60 b 0) := by
  obtain ⟨-, -, -, -, -, -, s2, -⟩ := hQ.2.2.1.1
  unfold f_P_cash
  rw [s2, ro_0 (by omega)]
theorem P_eventCount (h12 : μ 12 0 3 = nI s) (hQ : QS c0 μ 0 s b v E P C O n w t dd) : f_P_eventCount μ = some (v 60 b 6) := by
  obtain ⟨hs, hE, hP, hC, hO, ⟨t3, a6⟩, -⟩ := hQ.2.1
  obtain ⟨e1, e2⟩ := P_s12 h12 hs
  unfold f_P_eventCount
  rw [e1, e2, chk_t, t3, ← a6, ro_0 (by omega)]
theorem P_placeCount (h12 : μ 12 0 3 = nI s) (hQ : QS c0 μ 0 s b v E P C O n w t dd) : f_P_placeCount μ = some (v 60 b 7) := by
  obtain ⟨hs, hE, hP, hC, hO, -, ⟨t4, a7⟩, -⟩ := hQ.2.1
  obtain ⟨e1, e2⟩ := P_s12 h12 hs
  unfold f_P_placeCount
  rw [e1, e2, chk_t, t4, ← a7, ro_0 (by omega)]
theorem P_customerCount (h12 : μ 12 0 3 = nI s) (hQ : QS c0 μ 0 s b v E P C O n w t dd) : f_P_customerCount μ = some (v 60 b 8) := by
  obtain ⟨hs, hE, hP, hC, hO, -, -, ⟨t5, a8⟩, -⟩ := hQ.2.1
  obtain ⟨e1, e2⟩ := P_s12 h12 hs
  unfold f_P_customerCount
  rw [e1, e2, chk_t, t5, ← a8, ro_0 (by omega)]
theorem P_prophecyCount (hQ : QS c0 μ 0 s b v E P C O n w t dd) : f_P_prophecyCount μ = some (v 60 b 10) := by
  obtain ⟨-, -, -, -, -, -, -, s5, a10, -⟩ := hQ.2.2.1.1
  unfold f_P_prophecyCount
  rw [s5, ← a10, ro_0 (by omega)]
theorem P_queueLength (hQ : QS c0 μ 0 s b v E P C O n w t dd) : f_P_queueLength μ = some (v 60 b 12) := by
  obtain ⟨-, -, -, -, -, -, -, -, -, s8, a12, -⟩ := hQ.2.2.1.1
  unfold f_P_queueLength
  rw [s8, ← a12, ro_0 (by omega)]
theorem P_handled (hQ : QS c0 μ 0 s b v E P C O n w t dd) : f_P_handledRequests μ = some (v 60 b 13) := by
  obtain ⟨-, -, -, -, -, -, -, -, -, -, -, -, -, s13, -⟩ := hQ.2.2.1.1
  unfold f_P_handledRequests
  rw [s13, ro_0 (by omega)]
theorem P_refundTotal (hQ : QS c0 μ 0 s b v E P C O n w t dd) : f_P_refundTotal μ = some (v 60 b 14) := by
  obtain ⟨-, -, -, -, -, -, -, -, -, -, -, -, -, -, s14⟩ := hQ.2.2.1.1
  unfold f_P_refundTotal
  rw [s14, ro_0 (by omega)]
theorem P_idleOwls (h12 : μ 12 0 3 = nI s) (hQ : QS c0 μ 0 s b v E P C O n w t dd) : f_P_idleOwls μ = some (nI (ct (fun o => decide (rO c0 b v (52 + 5 * o + 1) = 0)) O)) := by
  obtain ⟨hs, hE, hP, hC, hO, -, -, -, ⟨t9, a9⟩, -⟩ := hQ.2.1
  obtain ⟨e1, e2⟩ := P_s12 h12 hs
  have hO9 := hQ.2.2.1.2.2.1.1
  unfold f_P_idleOwls
  rw [it_ct (fun o => decide (rO c0 b v (52 + 5 * o + 1) = 0)) O (by omega) (fun i hi x => ?_) (fun x => ?_), bind_s]
  · show s_P_idleOwls_4 x (nI i) μ = _
    unfold s_P_idleOwls_4
    obtain ⟨⟨d, -, q0, b1⟩, -⟩ := hO9 i hi
    replace q0 : μ 4 (5 * 0 + i) 0 = rO c0 b v (52 + 5 * i + 1) := q0.trans b1.symm
    rw [e1, e2, chk_t, t9, if_neg (nI_ge hi (by omega)), C_owlWith (by omega), bind_s, chk_of (decide_eq_true (by omega)), q0, nI_1]
    by_cases c : rO c0 b v (52 + 5 * i + 1) = 0
    · rw [if_pos c, if_pos (decide_eq_true c)]
    · rw [if_neg c, if_neg (by rw [decide_eq_true_eq]; exact c)]
  · show s_P_idleOwls_4 x (nI O) μ = _
    unfold s_P_idleOwls_4
    rw [e1, e2, chk_t, t9, if_pos (nI_le (Nat.le_refl _) (by omega))]
def cnt (a : Nat → Int32) (x : Int32) (n : Nat) : Nat := ct (fun p => decide (a (80 + 10 * p + 7) = x)) n
theorem C_count {x : Int32} (h5 : μ 9 0 5 = nI n) (hn : n ≤ 24) {a : Nat → Int32} (hp : SHP (fun p => μ 5 (24 * 0 + p)) a E P C n) : f_Shop_countWithState 0 x μ = some (nI (cnt a x n)) := by
  unfold f_Shop_countWithState cnt
  rw [it_ct (fun p => decide (a (80 + 10 * p + 7) = x)) n (by omega) (fun i hi y => ?_) (fun y => ?_), bind_s]
  · show s_Shop_countWithState_4 0 x y (nI i) μ = _
    unfold s_Shop_countWithState_4
    have q7 : μ 5 (24 * 0 + i) 7 = a (80 + 10 * i + 7) := (hp i hi).2.2.2.2.2.2.1
    rw [h5, if_neg (nI_ge hi (by omega)), chk_of (inb_of (by omega) (by omega)), nI_clamp (by omega), q7, nI_1]
    by_cases c : a (80 + 10 * i + 7) = x
    · rw [if_pos c, if_pos (decide_eq_true c)]
    · rw [if_neg c, if_neg (by rw [decide_eq_true_eq]; exact c)]
  · show s_Shop_countWithState_4 0 x y (nI n) μ = _
    unfold s_Shop_countWithState_4
    rw [h5, if_pos (nI_le (Nat.le_refl _) (by omega))]
theorem P_count (hQ : QS c0 μ 0 s b v E P C O n w t dd) {x : Int32} : f_Shop_countWithState 0 x μ = some (nI (cnt (rO c0 b v) x n)) := by
  obtain ⟨hn, -, -, -, -, -, -, s5, -⟩ := hQ.2.2.1.1
  exact C_count s5 hn hQ.2.2.1.2.1
theorem P_countIn (hQ : QS c0 μ 0 s b v E P C O n w t dd) {k : Nat} (hk : k < 4) : f_P_countIn (nI k) μ = some (nI (cnt (rO c0 b v) (nI k) n)) := by
  unfold f_P_countIn
  rw [P_count hQ]
  rcases (show k = 0 ∨ k = 1 ∨ k = 2 ∨ k = 3 by omega) with rfl | rfl | rfl | rfl
  · rw [if_pos (show nI 0 = 0 from rfl), bind_s]
  · rw [if_neg (by decide), if_pos (show nI 1 = 1 from rfl), bind_s]
  · rw [if_neg (by decide), if_neg (by decide), if_pos (show nI 2 = 2 from rfl), bind_s]
  · rw [if_neg (by decide), if_neg (by decide), if_neg (by decide), if_pos (show nI 3 = 3 from rfl), bind_s]
theorem P_truthShare (hQ : QS c0 μ 0 s b v E P C O n w t dd) : f_P_truthShare μ = some (if nI n - nI (cnt (rO c0 b v) 0 n) = 0 then FP.fconst0 else FP.fdiv (FP.i2f (nI (cnt (rO c0 b v) 1 n))) (FP.i2f (nI n - nI (cnt (rO c0 b v) 0 n)))) := by
  obtain ⟨hn, -, -, -, -, -, -, s5, -⟩ := hQ.2.2.1.1
  unfold f_P_truthShare
  rw [P_count hQ, bind_s, nm_9, s5]
  by_cases c : nI n - nI (cnt (rO c0 b v) 0 n) = 0
  · rw [if_pos c, if_pos c]
  · rw [if_neg c, if_neg c, P_count hQ, bind_s, chk_of (okF9_div c)]
theorem P_meanPrice (hQ : QS c0 μ 0 s b v E P C O n w t dd) : f_P_meanPrice μ = some (if nI n = 0 then FP.dconst0 else FP.ddiv (FP.i2d (sm (fun p => rO c0 b v (80 + 10 * p + 6)) n)) (FP.i2d (nI n))) := by
  obtain ⟨hn, -, -, -, -, -, -, s5, -⟩ := hQ.2.2.1.1
  have hp := hQ.2.2.1.2.1
  have eC : f_Shop_sumOfPrices 0 μ = some (sm (fun p => rO c0 b v (80 + 10 * p + 6)) n) := by
    unfold f_Shop_sumOfPrices
    rw [it_sum (fun p => rO c0 b v (80 + 10 * p + 6)) n (by omega) (fun i hi x => ?_) (fun x => ?_), bind_s, zadd]
    · show s_Shop_sumOfPrices_4 0 x (nI i) μ = _
      unfold s_Shop_sumOfPrices_4
      have q6 : μ 5 (24 * 0 + i) 6 = rO c0 b v (80 + 10 * i + 6) := (hp i hi).2.2.2.2.2.1
      rw [s5, if_neg (nI_ge hi (by omega)), chk_of (inb_of (by omega) (by omega)), nI_clamp (by omega), q6, nm_9, nI_1]
    · show s_Shop_sumOfPrices_4 0 x (nI n) μ = _
      unfold s_Shop_sumOfPrices_4
      rw [s5, if_pos (nI_le (Nat.le_refl _) (by omega))]
  unfold f_P_meanPrice
  rw [nm_9, s5]
  by_cases c : nI n = 0
  · rw [if_pos c, if_pos c]
  · rw [if_neg c, if_neg c, eC, bind_s, chk_of (okD9_div c)]
theorem P_contradictions (h12 : μ 12 0 3 = nI s) (hQ : QS c0 μ 0 s b v E P C O n w t dd) : f_P_contradictions μ = some 0 := by
  have hT := hQ.2.1
  have h0 := hQ.1
  obtain ⟨hs, hE, hP, hC, hO, -, -, ⟨t8, a8⟩, ⟨t9, a9⟩, -, -, -, -, -, -, -, -, a15⟩ := hQ.2.1
  obtain ⟨e1, e2⟩ := P_s12 h12 hs
  obtain ⟨hn, -, -, hdd, s1, a5, s2, s5, a10, -, -, -, -, -, s14⟩ := hQ.2.2.1.1
  have hp := hQ.2.2.1.2.1
  have ho := hQ.2.2.1.2.2.1
  have hc := hQ.2.2.1.2.2.2.1
  obtain ⟨i15, i14, -⟩ := hQ.2.2.2.1
  have hV := hQ.2.2.2.2.1
  have c1 : f_Setup_sumOfCoins s μ = some (rO c0 b v 15) := by
    unfold f_Setup_sumOfCoins
    rw [nm_9, it_sum (μ 24 s) C (by omega) (fun i hi x => ?_) (fun x => ?_), bind_s, a15]
    · show s_Setup_sumOfCoins_7 s x (nI i) μ = _
      unfold s_Setup_sumOfCoins_7 f_Setup_firstCoinsOf
      rw [t8, if_neg (nI_ge hi (by omega)), C_has t8, bind_s, ixB_in (by omega) hi, if_neg (by decide), chk_of (inb_of (by omega) (by omega)), nI_clamp (by omega), bind_s, nm_9, nI_1]
    · show s_Setup_sumOfCoins_7 s x (nI C) μ = _
      unfold s_Setup_sumOfCoins_7
      rw [t8, if_pos (nI_le (Nat.le_refl _) (by omega))]
  have c2 : f_Shop_sumOfCoins 0 μ = some (coinS (rO c0 b v) C O) := by
    unfold f_Shop_sumOfCoins
    rw [nm_9, it_sum (μ 27 0) 8 (by omega) (fun i hi x => ?_) (fun x => ?_), bind_s, it_sum (fun o => μ 4 (5 * 0 + o) 1) 5 (by omega) (fun i hi x => ?_) (fun x => ?_), bind_s]
    · have k1 := sm_ext (g := μ 27 0) (m := C) (k := 8 - C) (fun i h1 h2 => hc.2 i h1 (by omega))
      have k2 := sm_ext (g := fun o => μ 4 (5 * 0 + o) 1) (m := O) (k := 5 - O) (fun i h1 h2 => (ho.2 i h1 (by omega)).2.1)
      rw [show C + (8 - C) = 8 by omega] at k1
      rw [show O + (5 - O) = 5 by omega] at k2
      have k3 : sm (μ 27 0) C = sm (fun c => rO c0 b v (28 + 3 * c + 1)) C := sm_congr (fun i hi => hc.1 i hi)
      have k4 : sm (fun o => μ 4 (5 * 0 + o) 1) O = sm (fun o => rO c0 b v (52 + 5 * o + 2)) O := sm_congr (fun i hi => (ho.1 i hi).2.1)
      rw [k1, k2, k3, k4, s2]
      rfl
    · show s_Shop_sumOfCoins_30 0 x (nI i) μ = _
      unfold s_Shop_sumOfCoins_30
      rw [if_neg (gl_5 hi), chk_of (inb_of hi (by omega)), nI_clamp (by omega), nm_9, nI_1]
    · show s_Shop_sumOfCoins_30 0 x (nI 5) μ = _
      unfold s_Shop_sumOfCoins_30
      rw [if_pos (lg_5 (Nat.le_refl _) (by omega))]
    · show s_Shop_sumOfCoins_7 0 x (nI i) μ = _
      unfold s_Shop_sumOfCoins_7
      rw [if_neg (gl_8 hi), chk_of (inb_of hi (by omega)), nI_clamp (by omega), nm_9, nI_1]
    · show s_Shop_sumOfCoins_7 0 x (nI 8) μ = _
      unfold s_Shop_sumOfCoins_7
      rw [if_pos (lg_8 (Nat.le_refl _) (by omega))]
  have c3 : f_Shop_sumOfRefunds 0 μ = some (paidS (rO c0 b v) n) := by
    unfold f_Shop_sumOfRefunds
    rw [it_sum (fun p => if rO c0 b v (80 + 10 * p + 7) = 3 then rfd (rO c0 b v) (80 + 10 * p) else 0) n (by omega) (fun i hi x => ?_) (fun x => ?_), bind_s, zadd]
    · rfl
    · show s_Shop_sumOfRefunds_4 0 x (nI i) μ = _
      unfold s_Shop_sumOfRefunds_4
      have q7 : μ 5 (24 * 0 + i) 7 = rO c0 b v (80 + 10 * i + 7) := (hp i hi).2.2.2.2.2.2.1
      rw [s5, if_neg (nI_ge hi (by omega)), chk_of (inb_of (by omega) (by omega)), chk_of (inb_of (by omega) (by omega)), nI_clamp (by omega), q7, C_refundFor h0 hT (hp i hi), bind_s, nm_9, nI_1]
      by_cases c : rO c0 b v (80 + 10 * i + 7) = 3
      · rw [if_pos c, if_pos c]
      · rw [if_neg c, if_neg c, Int32.add_zero]
    · show s_Shop_sumOfRefunds_4 0 x (nI n) μ = _
      unfold s_Shop_sumOfRefunds_4
      rw [s5, if_pos (nI_le (Nat.le_refl _) (by omega))]
  have c4 : f_Shop_countOverdue 0 μ = some (nI (late (rO c0 b v) n)) := by
    unfold f_Shop_countOverdue late
    rw [it_ct (fun p => decide (rO c0 b v (80 + 10 * p + 7) = 0) && decide (¬ rO c0 b v 5 ≤ rO c0 b v (80 + 10 * p + 5))) n (by omega) (fun i hi x => ?_) (fun x => ?_), bind_s]
    · show s_Shop_countOverdue_4 0 x (nI i) μ = _
      unfold s_Shop_countOverdue_4
      obtain ⟨-, -, -, -, ⟨d, -, q5, b5⟩, -, q7, -⟩ := hp i hi
      replace q7 : μ 5 (24 * 0 + i) 7 = rO c0 b v (80 + 10 * i + 7) := q7
      replace q5 : μ 5 (24 * 0 + i) 5 = rO c0 b v (80 + 10 * i + 5) := q5.trans b5.symm
      rw [s5, if_neg (nI_ge hi (by omega)), chk_of (inb_of (by omega) (by omega)), nI_clamp (by omega), C_isOverdue, bind_s, q7, q5, s1.trans a5.symm, nI_1]
      by_cases k1 : rO c0 b v (80 + 10 * i + 7) = 0 <;> by_cases k2 : rO c0 b v 5 ≤ rO c0 b v (80 + 10 * i + 5) <;> simp [-Nat.add_zero, -Int32.not_le, k1, k2]
    · show s_Shop_countOverdue_4 0 x (nI n) μ = _
      unfold s_Shop_countOverdue_4
      rw [s5, if_pos (nI_le (Nat.le_refl _) (by omega))]
  have l0 : late (rO c0 b v) n = 0 := by
    unfold late
    rw [ct_zero]
    intro i hi
    by_cases k1 : rO c0 b v (80 + 10 * i + 7) = 0
    · obtain ⟨u, hu, hu2, e5⟩ := hV i hi k1
      rw [e5, a5, decide_eq_false (p := ¬ nI dd ≤ nI u) (fun z => z (nI_le hu (by omega))), Bool.and_false]
    · rw [decide_eq_false k1, Bool.false_and]
  have d1 : rO c0 b v 15 - coinS (rO c0 b v) C O = 0 := by
    rw [i15]
    exact Int32.sub_self _
  have d2 : rO c0 b v 14 - paidS (rO c0 b v) n = 0 := by
    rw [i14]
    exact Int32.sub_self _
  unfold f_P_contradictions
  rw [e1, e2, chk_t, c1, bind_s, c2, bind_s, c3, bind_s, c4, bind_s, s14, l0, d1, d2, if_pos (by decide)]
  rfl


-- happenings
theorem P_finds (h12 : μ 12 0 3 = nI s) (hQ : QS c0 μ 0 s b v E P C O n w t dd) {e p : Nat} (he : e < E) (hp : p < P) {α : Type} (F : Int32 → Option α) : chk (decide ((μ 12 0 3).toNatClampNeg < 2)) (((f_Names_has (3 * ((μ 12 0 3).toNatClampNeg)) (nI e) μ)).bind (fun r2 => ((if r2 = 0 then (some (0)) else (chk (decide ((μ 12 0 3).toNatClampNeg < 2)) (((f_Names_has (3 * ((μ 12 0 3).toNatClampNeg) + 1) (nI p) μ)).bind (fun r7 => if r7 = 0 then (some (0)) else (some (1))))) : Option (Int32))).bind F)) = F 1 := by
  obtain ⟨hs, hE, hP, hC, hO, ⟨t3, -⟩, ⟨t4, -⟩, -⟩ := hQ.2.1
  obtain ⟨e1, e2⟩ := P_s12 h12 hs
  rw [e1, e2, chk_t, C_has t3, ixB_in (by omega) he, bind_s, if_neg (by decide), chk_t, C_has t4, ixB_in (by omega) hp, bind_s, if_neg (by decide), bind_s]
theorem P_times (h12 : μ 12 0 3 = nI s) (hQ : QS c0 μ 0 s b v E P C O n w t dd) {e p : Nat} (he : e < E) (hp : p < P) : f_P_timesHappened (nI e) (nI p) μ = some (nI (hap (rO c0 b v) (nI e) (nI p) t)) := by
  obtain ⟨-, -, ht, -, -, -, -, -, -, -, -, s12, -⟩ := hQ.2.2.1.1
  unfold f_P_timesHappened
  rw [P_finds h12 hQ he hp]
  unfold f_P_throwIfMissing
  rw [if_neg (by decide), bind_s, C_countHappenings s12 ht hQ.2.2.1.2.2.2.2.2, bind_s]
theorem P_hasHappened (h12 : μ 12 0 3 = nI s) (hQ : QS c0 μ 0 s b v E P C O n w t dd) {e p : Nat} {d : Int32} (he : e < E) (hp : p < P) : f_P_hasHappened (nI e) (nI p) d μ = some (if hapd (rO c0 b v) (nI e) (nI p) d t = 0 then 0 else 1) := by
  obtain ⟨-, -, ht, -, -, -, -, -, -, -, -, s12, -⟩ := hQ.2.2.1.1
  unfold f_P_hasHappened
  rw [P_finds h12 hQ he hp]
  unfold f_P_throwIfMissing
  rw [if_neg (by decide), bind_s, C_isNoted s12 ht hQ.2.2.1.2.2.2.2.2, bind_s, chk_of (nb01 (by split; exact Or.inl rfl; exact Or.inr rfl))]
def tot (a : Nat → Int32) (p : Int32) (t m : Nat) : Int32 := sm (fun e => nI (hap a (nI e) p t)) m
theorem C_hapIn {p : Int32} (h12 : μ 9 0 12 = nI t) (ht : t ≤ 60) {a : Nat → Int32} (hN : SHN (μ 31 0) (μ 32 0) (μ 33 0) a E t) (hE : E ≤ 6) : f_Shop_countHappeningsIn 0 p μ = some (tot a p t E) := by
  unfold f_Shop_countHappeningsIn
  rw [it_sum (fun e => nI (hap a (nI e) p t)) 6 (by omega) (fun i hi x => ?_) (fun x => ?_), bind_s, zadd]
  · have := sm_ext (g := fun e => nI (hap a (nI e) p t)) (m := E) (k := 6 - E) (fun i h1 h2 => ?_)
    · rw [show E + (6 - E) = 6 by omega] at this
      rw [this]; rfl
    · have z : hap a (nI i) p t = 0 := by
        unfold hap
        rw [ct_zero]
        intro k hk
        obtain ⟨-, -, -, ⟨v, hv, e⟩, -⟩ := hN k hk
        have : ¬ a (320 + 3 * k + 0) = nI i := fun q => by
          rw [e, nI_eq (by omega) (by omega)] at q
          omega
        rw [decide_eq_false this]
        rfl
      show nI (hap a (nI i) p t) = 0
      rw [z]; rfl
  · show s_Shop_countHappeningsIn_4 0 p x (nI i) μ = _
    unfold s_Shop_countHappeningsIn_4
    rw [if_neg (gl_6 hi), C_countHappenings h12 ht hN, bind_s, nm_9, nI_1]
  · show s_Shop_countHappeningsIn_4 0 p x (nI 6) μ = _
    unfold s_Shop_countHappeningsIn_4
    rw [if_pos (lg_6 (Nat.le_refl _) (by omega))]
/-- the liveliest of the first places, and how much happened there -/
def bs (T : Nat → Int32) : Nat → Int32 × Int32
  | 0 => (0, 0)
  | k + 1 => if (bs T k).2 < T k then (nI k, T k) else bs T k
def nsum (f : Nat → Nat) : Nat → Nat
  | 0 => 0
  | m + 1 => nsum f m + f m
theorem sm_nI {f : Nat → Nat} : ∀ {m : Nat}, sm (fun e => nI (f e)) m = nI (nsum f m)
  | 0 => rfl
  | m + 1 => by
    show sm _ m + nI (f m) = nI (nsum f m + f m)
    rw [sm_nI, nI_add]
theorem nsum_le {f : Nat → Nat} {c : Nat} (h : ∀ i, f i ≤ c) : ∀ {m : Nat}, nsum f m ≤ c * m
  | 0 => Nat.le_refl _
  | m + 1 => by
    show nsum f m + f m ≤ c * (m + 1)
    have := nsum_le h (m := m)
    have := h m
    rw [Nat.mul_succ]
    omega
theorem tot_0 {a : Nat → Int32} {p : Int32} (ht : t ≤ 60) (hE : E ≤ 6) : (0 : Int32) ≤ tot a p t E := by
  unfold tot
  rw [sm_nI]
  have := nsum_le (f := fun e => hap a (nI e) p t) (c := 60) (m := E) (fun i => Nat.le_trans ct_le ht)
  exact i0le (by omega)
theorem P_liveliest (h12 : μ 12 0 3 = nI s) (hQ : QS c0 μ 0 s b v E P C O n w t dd) (hP1 : 1 ≤ P) : f_P_liveliestPlace μ = some (bs (fun k => tot (rO c0 b v) (nI k) t E) P).1 := by
  obtain ⟨hs, hE, hP, hC, hO, -, ⟨t7, a7⟩, -⟩ := hQ.2.1
  obtain ⟨e1, e2⟩ := P_s12 h12 hs
  obtain ⟨-, -, ht, -, -, -, -, -, -, -, -, s12, -⟩ := hQ.2.2.1.1
  have eC : ∀ p, f_Shop_countHappeningsIn 0 p μ = some (tot (rO c0 b v) p t E) := fun p => C_hapIn s12 ht hQ.2.2.1.2.2.2.2.2 hE
  generalize hT : (fun k => tot (rO c0 b v) (nI k) t E) = T
  have eT : ∀ k, f_Shop_countHappeningsIn 0 (nI k) μ = some (T k) := fun k => by rw [eC, ← hT]
  have t0 : (0 : Int32) ≤ T 0 := by rw [← hT]; exact tot_0 ht hE
  have b1 : bs T 1 = (0, T 0) := by
    show (if (0 : Int32) < T 0 then (nI 0, T 0) else (0, 0)) = _
    by_cases c : (0 : Int32) < T 0
    · rw [if_pos c]
      rfl
    · rw [if_neg c]
      have : T 0 = 0 := by
        apply Int32.toInt_inj.mp
        rw [Int32.lt_iff_toInt_lt] at c
        rw [Int32.le_iff_toInt_le] at t0
        omega
      rw [this]
  unfold f_P_liveliestPlace
  rw [show f_Shop_countHappeningsIn 0 0 μ = some (T 0) from eT 0, bind_s]
  refine it_fr (f := fun s : Int32 × Int32 × Int32 => s_P_liveliestPlace_13 s.1 s.2.1 s.2.2 μ) (s := (0, T 0, 1)) (fun i q => 1 ≤ i ∧ q = ((bs T i).1, (bs T i).2, nI i)) (fun q => q = (bs T P).1) P 1 (by omega) (by omega) ⟨by omega, by rw [b1]; rfl⟩ ?_ ?_ (fun r q1 q2 => by rw [q1, q2]; rfl)
  · rintro i hi _ ⟨h1, rfl⟩
    refine ⟨((bs T (i + 1)).1, (bs T (i + 1)).2, nI (i + 1)), ?_, by omega, rfl⟩
    show s_P_liveliestPlace_13 (bs T i).1 (bs T i).2 (nI i) μ = _
    unfold s_P_liveliestPlace_13
    rw [e1, e2, chk_t, t7, if_neg (nI_ge hi (by omega)), eT, bind_s, nI_1]
    show _ = some (Sum.inl ((if (bs T i).2 < T i then (nI i, T i) else bs T i).1, (if (bs T i).2 < T i then (nI i, T i) else bs T i).2, nI (i + 1)))
    by_cases c : T i ≤ (bs T i).2
    · rw [if_pos c, if_neg (by rw [Int32.lt_iff_toInt_lt]; rw [Int32.le_iff_toInt_le] at c; omega)]
    · rw [if_neg c, if_pos (by rw [Int32.lt_iff_toInt_lt]; rw [Int32.le_iff_toInt_le] at c; omega)]
  · rintro _ ⟨-, rfl⟩
    refine ⟨(bs T P).1, ?_, rfl⟩
    show s_P_liveliestPlace_13 (bs T P).1 (bs T P).2 (nI P) μ = _
    unfold s_P_liveliestPlace_13
    rw [e1, e2, chk_t, t7, if_pos (nI_le (Nat.le_refl _) (by omega))]
end Reads

/-! What only looks: counts, sums, shares. -/
theorem sm_ext {g : Nat → Int32} {m : Nat} : ∀ {k : Nat}, (∀ i, m ≤ i → i < m + k → g i = 0) → sm g (m + k) = sm g m
  | 0, _ => rfl
  | k + 1, h => by
    show sm g (m + k) + g (m + k) = _
    rw [sm_ext (fun i h1 h2 => h i h1 (by omega)), h (m + k) (by omega) (by omega), Int32.add_zero]
theorem zadd (x : Int32) : (0 : Int32) + x = x := Int32.zero_add x
section Sums
variable {μ ν : Mem} {s E P C O n w t dd h L : Nat} {π : Nat → Nat}
theorem T_idleOwls (hG : GR μ ν) : Rd0 μ ν (f_P_idleOwls μ) (f_R_idleOwls ν) := by
  have hG0 := hG
  obtain ⟨s, E, P, C, O, n, w, t, dd, h, π, L, H⟩ := hG
  obtain ⟨e1, e2⟩ := H.s12
  obtain ⟨hs, hE, hP, hC, hO, -, -, -, ⟨t9, a9⟩, -⟩ := H.2.2.1
  have hO9 := H.2.2.2.1.2.2.1.1
  refine rd_0 hG0 (r := nI (ct (fun o => decide (ν 40 0 (52 + 5 * o + 1) = 0)) O)) ?_ ?_
  · unfold f_P_idleOwls
    rw [it_ct (fun o => decide (ν 40 0 (52 + 5 * o + 1) = 0)) O (by omega) (fun i hi x => ?_) (fun x => ?_), bind_s]
    · show s_P_idleOwls_4 x (nI i) μ = _
      unfold s_P_idleOwls_4
      obtain ⟨⟨d, -, q0, b1⟩, -⟩ := hO9 i hi
      replace q0 : μ 4 (5 * 0 + i) 0 = ν 40 0 (52 + 5 * i + 1) := q0.trans b1.symm
      rw [e1, e2, chk_t, t9, if_neg (nI_ge hi (by omega)), C_owlWith (by omega), bind_s, chk_of (decide_eq_true (by omega)), q0, nI_1]
      by_cases c : ν 40 0 (52 + 5 * i + 1) = 0
      · rw [if_pos c, if_pos (decide_eq_true c)]
      · rw [if_neg c, if_neg (by rw [decide_eq_true_eq]; exact c)]
    · show s_P_idleOwls_4 x (nI O) μ = _
      unfold s_P_idleOwls_4
      rw [e1, e2, chk_t, t9, if_pos (nI_le (Nat.le_refl _) (by omega))]
  · unfold f_R_idleOwls
    have n40 : (st3 ν 13 0 7 0) 40 = ν 40 := st3_K (by omega)
    rw [nm_9, it_ct (fun o => decide (ν 40 0 (52 + 5 * o + 1) = 0)) O (by omega) (fun i hi x => ?_) (fun x => ?_), bind_s]
    · show s_R_idleOwls_9 x (nI i) (st3 ν 13 0 7 0) = _
      unfold s_R_idleOwls_9
      rw [ib_9_524, chk_t, tn_9, n40, a9, if_neg (nI_ge hi (by omega)), R_ofOwl1 (by omega), bind_s, n40, nI_1]
      by_cases c : ν 40 0 (52 + 5 * i + 1) = 0
      · rw [if_pos c, if_pos (decide_eq_true c)]
      · rw [if_neg c, if_neg (by rw [decide_eq_true_eq]; exact c)]
    · show s_R_idleOwls_9 x (nI O) (st3 ν 13 0 7 0) = _
      unfold s_R_idleOwls_9
      rw [ib_9_524, chk_t, tn_9, n40, a9, if_pos (nI_le (Nat.le_refl _) (by omega))]
def cnt (a : Nat → Int32) (x : Int32) (n : Nat) : Nat := ct (fun p => decide (a (80 + 10 * p + 7) = x)) n
theorem C_count {x : Int32} (h5 : μ 9 0 5 = nI n) (hn : n ≤ 24) {a : Nat → Int32} (hp : SHP (fun p => μ 5 (24 * 0 + p)) a E P C n) : f_Shop_countWithState 0 x μ = some (nI (cnt a x n)) := by
  unfold f_Shop_countWithState cnt
  rw [it_ct (fun p => decide (a (80 + 10 * p + 7) = x)) n (by omega) (fun i hi y => ?_) (fun y => ?_), bind_s]
  · show s_Shop_countWithState_4 0 x y (nI i) μ = _
    unfold s_Shop_countWithState_4
    have q7 : μ 5 (24 * 0 + i) 7 = a (80 + 10 * i + 7) := (hp i hi).2.2.2.2.2.2.1
    rw [h5, if_neg (nI_ge hi (by omega)), chk_of (inb_of (by omega) (by omega)), nI_clamp (by omega), q7, nI_1]
    by_cases c : a (80 + 10 * i + 7) = x
    · rw [if_pos c, if_pos (decide_eq_true c)]
    · rw [if_neg c, if_neg (by rw [decide_eq_true_eq]; exact c)]
  · show s_Shop_countWithState_4 0 x y (nI n) μ = _
    unfold s_Shop_countWithState_4
    rw [h5, if_pos (nI_le (Nat.le_refl _) (by omega))]
theorem R_many {x : Int32} (h10 : ν 40 0 10 = nI n) (hn : n ≤ 24) : f_R_manyIn x ν = some (nI (cnt (ν 40 0) x n)) := by
  unfold f_R_manyIn cnt
  rw [it_ct (fun p => decide (ν 40 0 (80 + 10 * p + 7) = x)) n (by omega) (fun i hi y => ?_) (fun y => ?_), bind_s]
  · show s_R_manyIn_4 x y (nI i) ν = _
    unfold s_R_manyIn_4
    rw [ib_10_524, chk_t, tn_10, h10, if_neg (nI_ge hi (by omega)), R_of7 (by omega), bind_s, nI_1]
    by_cases c : ν 40 0 (80 + 10 * i + 7) = x
    · rw [if_pos c, if_pos (decide_eq_true c)]
    · rw [if_neg c, if_neg (by rw [decide_eq_true_eq]; exact c)]
  · show s_R_manyIn_4 x y (nI n) ν = _
    unfold s_R_manyIn_4
    rw [ib_10_524, chk_t, tn_10, h10, if_pos (nI_le (Nat.le_refl _) (by omega))]
theorem T_countIn (hG : GR μ ν) (x : Int32) : RdOK μ ν [(xIAE, 1)] (f_P_countIn x μ) (f_R_countIn x ν) := by
  have hG0 := hG
  obtain ⟨s, E, P, C, O, n, w, t, dd, h, π, L, H⟩ := hG
  obtain ⟨hn, -, -, -, s1, a5, -, s5, a10, -⟩ := H.2.2.2.1.1
  have hp := H.2.2.2.1.2.1
  have n10 : (st3 ν 13 0 7 0) 40 0 10 = nI n := by rw [st3_K (by omega)]; exact a10
  have eC : ∀ y, f_Shop_countWithState 0 y μ = some (nI (cnt (ν 40 0) y n)) := fun y => C_count s5 hn hp
  rcases wi_01 x 0 3 with e0 | e1
  · refine rd_no hG0 (e := xIAE) (k := 1) ?_ ?_ (List.mem_singleton.mpr rfl)
    · have hne : ∀ d, d ≤ 3 → x ≠ nI d := fun d hd z => by
        subst z
        unfold wi at e0
        rw [if_neg (nI_pos (by omega)), if_neg (ng_3 hd)] at e0
        exact absurd e0 (by decide)
      unfold f_P_countIn
      rw [if_neg (show ¬ x = 0 from hne 0 (by omega)), if_neg (show ¬ x = 1 from hne 1 (by omega)), if_neg (show ¬ x = 2 from hne 2 (by omega)), if_neg (show ¬ x = 3 from hne 3 (by omega))]
    · unfold f_R_countIn
      rw [nm_9, R_within, bind_s, e0, right_0 th0 (by decide), bind_s, if_pos rfl, snd_, th_th]
  · obtain ⟨d, -, hd, rfl⟩ := wi_1 (a := 0) (b := 3) (by omega) (by omega) e1
    refine rd_ok hG0 (r := nI (cnt (ν 40 0) (nI d) n)) ?_ ?_
    · unfold f_P_countIn
      rw [eC]
      rcases (show d = 0 ∨ d = 1 ∨ d = 2 ∨ d = 3 by omega) with rfl | rfl | rfl | rfl
      · rw [if_pos (show nI 0 = 0 from rfl), bind_s]
      · rw [if_neg (by decide), if_pos (show nI 1 = 1 from rfl), bind_s]
      · rw [if_neg (by decide), if_neg (by decide), if_pos (show nI 2 = 2 from rfl), bind_s]
      · rw [if_neg (by decide), if_neg (by decide), if_neg (by decide), if_pos (show nI 3 = 3 from rfl), bind_s]
    · unfold f_R_countIn
      rw [nm_9, R_within, bind_s, e1, right_1 th0, bind_s, if_neg n1_, snd_, R_many n10 hn, bind_s, st3_K (by omega)]
-- the liveliest place
def tot (a : Nat → Int32) (p : Int32) (t m : Nat) : Int32 := sm (fun e => nI (hap a (nI e) p t)) m
theorem C_hapIn {p : Int32} (h12 : μ 9 0 12 = nI t) (ht : t ≤ 60) {a : Nat → Int32} (hN : SHN (μ 31 0) (μ 32 0) (μ 33 0) a E t) (hE : E ≤ 6) : f_Shop_countHappeningsIn 0 p μ = some (tot a p t E) := by
  unfold f_Shop_countHappeningsIn
  rw [it_sum (fun e => nI (hap a (nI e) p t)) 6 (by omega) (fun i hi x => ?_) (fun x => ?_), bind_s, zadd]
  · have := sm_ext (g := fun e => nI (hap a (nI e) p t)) (m := E) (k := 6 - E) (fun i h1 h2 => ?_)
    · rw [show E + (6 - E) = 6 by omega] at this
      rw [this]; rfl
    · have z : hap a (nI i) p t = 0 := by
        unfold hap
        rw [ct_zero]
        intro k hk
        obtain ⟨-, -, -, ⟨v, hv, e⟩, -⟩ := hN k hk
        have : ¬ a (320 + 3 * k + 0) = nI i := fun q => by
          rw [e, nI_eq (by omega) (by omega)] at q
          omega
        rw [decide_eq_false this]
        rfl
      show nI (hap a (nI i) p t) = 0
      rw [z]; rfl
  · show s_Shop_countHappeningsIn_4 0 p x (nI i) μ = _
    unfold s_Shop_countHappeningsIn_4
    rw [if_neg (gl_6 hi), C_countHappenings h12 ht hN, bind_s, nm_9, nI_1]
  · show s_Shop_countHappeningsIn_4 0 p x (nI 6) μ = _
    unfold s_Shop_countHappeningsIn_4
    rw [if_pos (lg_6 (Nat.le_refl _) (by omega))]
theorem R_allAt {p : Int32} (h11 : ν 40 0 11 = nI t) (ht : t ≤ 60) (h6 : ν 40 0 6 = nI E) (hE : E ≤ 6) : f_R_allAt p ν = some (tot (ν 40 0) p t E) := by
  unfold f_R_allAt
  rw [it_sum (fun e => nI (hap (ν 40 0) (nI e) p t)) E (by omega) (fun i hi x => ?_) (fun x => ?_), bind_s, zadd]
  · rfl
  · show s_R_allAt_4 p x (nI i) ν = _
    unfold s_R_allAt_4
    rw [ib_6_524, chk_t, tn_6, h6, if_neg (nI_ge hi (by omega)), R_noted h11 ht, bind_s, nm_9, nI_1]
  · show s_R_allAt_4 p x (nI E) ν = _
    unfold s_R_allAt_4
    rw [ib_6_524, chk_t, tn_6, h6, if_pos (nI_le (Nat.le_refl _) (by omega))]
theorem T_liveliestPlace (hG : GR μ ν) : Rd0 μ ν (f_P_liveliestPlace μ) (f_R_liveliestPlace ν) := by
  have hG0 := hG
  obtain ⟨s, E, P, C, O, n, w, t, dd, h, π, L, H⟩ := hG
  obtain ⟨e1, e2⟩ := H.s12
  obtain ⟨hs, hE, hP, hC, hO, ⟨t6, a6⟩, ⟨t7, a7⟩, -⟩ := H.2.2.1
  obtain ⟨hn, hw, ht, -, -, -, -, -, -, -, -, s12, a11, -⟩ := H.2.2.2.1.1
  have hN := H.2.2.2.1.2.2.2.2.2
  have n40 : (st3 ν 13 0 7 0) 40 = ν 40 := st3_K (by omega)
  have eC : ∀ p, f_Shop_countHappeningsIn 0 p μ = some (tot (ν 40 0) p t E) := fun p => C_hapIn s12 ht hN hE
  have eR : ∀ p, f_R_allAt p (st3 ν 13 0 7 0) = some (tot (ν 40 0) p t E) := fun p => by
    have := R_allAt (ν := st3 ν 13 0 7 0) (p := p) (t := t) (E := E) (by rw [n40]; exact a11) ht (by rw [n40]; exact a6) hE
    rw [n40] at this; exact this
  have eP : f_P_liveliestPlace μ = it (fun (s : Int32 × Int32 × Int32) => s_P_liveliestPlace_13 s.1 s.2.1 s.2.2 μ) LIM ((0, tot (ν 40 0) 0 t E, 1)) := by
    unfold f_P_liveliestPlace
    rw [eC, bind_s]
    cases it (fun (s : Int32 × Int32 × Int32) => s_P_liveliestPlace_13 s.1 s.2.1 s.2.2 μ) LIM ((0, tot (ν 40 0) 0 t E, 1)) <;> rfl
  refine it_fr2 (f1 := fun s : Int32 × Int32 × Int32 => s_P_liveliestPlace_13 s.1 s.2.1 s.2.2 μ) (f2 := fun s : Int32 × Int32 => s_R_liveliestPlace_9 s.1 s.2 (st3 ν 13 0 7 0)) (a := (0, tot (ν 40 0) 0 t E, 1)) (b := (0, 1))
    (fun i a b => 1 ≤ i ∧ ∃ y, a = (y, tot (ν 40 0) y t E, nI i) ∧ b = (y, nI i)) (fun a b => a = b) (if P = 0 then 1 else P) 1 (by split <;> omega) (by split <;> omega) ⟨by omega, 0, rfl, rfl⟩ ?_ ?_ (fun r1 r2 q1 q2 q3 => ?_)
  · rintro i hi _ _ ⟨hi1, y, rfl, rfl⟩
    left
    have c0 : i < P := by split at hi <;> omega
    · show ∃ a' b', s_P_liveliestPlace_13 y (tot (ν 40 0) y t E) (nI i) μ = some (.inl a') ∧ s_R_liveliestPlace_9 y (nI i) (st3 ν 13 0 7 0) = some (.inl b') ∧ _
      unfold s_P_liveliestPlace_13 s_R_liveliestPlace_9
      rw [e1, e2, chk_t, t7, if_neg (nI_ge c0 (by omega)), eC, bind_s, ib_7_524, chk_t, tn_7, n40, a7, if_neg (nI_ge c0 (by omega)), eR, bind_s, eR, bind_s, nI_1]
      by_cases c : tot (ν 40 0) (nI i) t E ≤ tot (ν 40 0) y t E
      · rw [if_pos c, if_pos c]
        exact ⟨_, _, rfl, rfl, by omega, y, rfl, rfl⟩
      · rw [if_neg c, if_neg c]
        exact ⟨_, _, rfl, rfl, by omega, nI i, rfl, rfl⟩
  · rintro _ _ ⟨-, y, rfl, rfl⟩
    have hle : P ≤ (if P = 0 then 1 else P) := by split <;> omega
    have hlt : (if P = 0 then 1 else P) < 2 ^ 31 := by split <;> omega
    show ∃ r1 r2, s_P_liveliestPlace_13 y (tot (ν 40 0) y t E) (nI (if P = 0 then 1 else P)) μ = some (.inr r1) ∧ s_R_liveliestPlace_9 y (nI (if P = 0 then 1 else P)) (st3 ν 13 0 7 0) = some (.inr r2) ∧ _
    unfold s_P_liveliestPlace_13 s_R_liveliestPlace_9
    rw [e1, e2, chk_t, t7, if_pos (nI_le hle hlt), ib_7_524, chk_t, tn_7, n40, a7, if_pos (nI_le hle hlt)]
    exact ⟨_, _, rfl, rfl, rfl⟩
  · subst q3
    refine rd_0 hG0 (r := r1) (by rw [eP, q1]) ?_
    unfold f_R_liveliestPlace
    rw [nm_9, q2, bind_s]
end Sums

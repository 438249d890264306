/-! The first state: both know the same. -/
def rm : Nat → Mem
  | 0 => nu0
  | i + 1 => st3 (rm i) 46 0 i (sAt 26 (nI i))
def tB (i : Nat) : Nat := (sAt 1 (nI i)).toNatClampNeg
theorem sTx26 : sTx 26 = sTx 1 := rfl
theorem tB_ok0 : (List.range TL).all (fun i => decide (1 ≤ tB i ∧ tB i ≤ 255 ∧ sAt 1 (nI i) = nI (tB i))) = true := by decide +kernel
theorem tB_ok {i : Nat} (h : i < TL) : 1 ≤ tB i ∧ tB i ≤ 255 ∧ sAt 1 (nI i) = nI (tB i) := of_decide_eq_true (List.all_eq_true.mp tB_ok0 i (List.mem_range.mpr h))
theorem rm_oth {K j f : Nat} (h : K ≠ 46) : ∀ i, rm i K j f = nu0 K j f := by
  intro i
  induction i with
  | zero => rfl
  | succ i ih => show st3 _ 46 0 i _ K j f = _; rw [st3_K h]; exact ih
theorem rm_let : ∀ i k, k < i → rm i 46 0 k = sAt 26 (nI k) := by
  intro i
  induction i with
  | zero => intro k hk; omega
  | succ i ih =>
    intro k hk
    show st3 (rm i) 46 0 i _ 46 0 k = _
    rw [st3_ua]
    by_cases e : k = i
    · subst e; rw [ua_S]
    · rw [ua_N e]; exact ih k (by omega)
theorem rm_it : it (fun (s : Int32 × Mem) => s_R_takesText_2 26 s.1 s.2) LIM (0, nu0) = some (rm TL) := by
  have hT := TL_v
  refine it_fr (f := fun (s : Int32 × Mem) => s_R_takesText_2 26 s.1 s.2) (s := (0, nu0)) (fun i q => q.1 = nI i ∧ q.2 = rm i) (fun q => q = rm TL) TL 0 (Nat.zero_le _) (Nat.lt_trans hT (by decide)) ⟨rfl, rfl⟩ (fun i hi q hq => ?_) (fun q hq => ?_) (fun r q1 q2 => by rw [q1, q2])
  · obtain ⟨x, m⟩ := q
    obtain ⟨q1, q2⟩ := hq
    replace q1 : x = nI i := q1
    replace q2 : m = rm i := q2
    subst q1 q2
    have h8 : i < 800 := Nat.lt_trans hi hT
    refine ⟨(nI (i + 1), rm (i + 1)), ?_, rfl, rfl⟩
    show s_R_takesText_2 26 (nI i) (rm i) = _
    unfold s_R_takesText_2
    rw [if_neg (show ¬ sLen 26 ≤ nI i from nI_ge (b := TL) hi (Nat.lt_trans hT (by decide))), chk_of (show inb (nI i) (sTx 26).length = true from inb_of (n := TL) hi (Nat.lt_trans hT (by decide))), chk_of (inb_of h8 (by omega)), nI_clamp (by omega), nm_9, nI_1]
    rfl
  · obtain ⟨x, m⟩ := q
    refine ⟨m, ?_, hq.2⟩
    show s_R_takesText_2 26 x m = _
    unfold s_R_takesText_2
    rw [if_pos (by
      rw [show x = nI TL from hq.1]
      exact nI_le (Nat.le_refl TL) (Nat.lt_trans hT (by decide)))]
set_option maxRecDepth 100000 in
theorem first_ok : (f_R_takesText 26 nu0).map (fun v => v 13 0 16) = some 0 := by decide +kernel
theorem GR_first : ∃ m er v, f_P_openShop (pm TL) = some (er, m) ∧ f_R_takesText 26 nu0 = some v ∧ GR m v ∧ m 12 0 12 = -1 ∧ v 13 0 28 = 0 := by
  have hT := TL_v
  generalize hn : st3 (rm TL) 13 0 9 (sLen 26) = ν
  have hX : TX (pm TL) ν tB TL := by
    refine ⟨Nat.le_of_lt hT, pm_len TL, by rw [← hn, st3_ua, ua_S]; rfl, fun i hi => ?_⟩
    obtain ⟨h1, h2, h3⟩ := tB_ok hi
    refine ⟨h1, h2, (pm_let TL i hi).trans h3, ?_⟩
    rw [← hn, st3_K (by omega), rm_let TL i hi]
    exact h3
  have hz : ∀ k, k < 524 → ν 40 0 k = 0 := fun k _ => by
    rw [← hn, st3_K (by omega), rm_oth (by omega)]
    rfl
  obtain ⟨er, m, v1, v, o1, o2, o3, o4, o5, o6, o7, o8, o9, ⟨f1, f2⟩, o10⟩ := L_open (μ := pm TL) (s := 0) (by omega) hX ⟨by rw [pm_oth (by omega) (by omega)]; rfl, by rw [pm_oth (by omega) (by omega)]; rfl⟩ hz
  have hv : f_R_takesText 26 nu0 = some (st3 v 13 0 9 0) := by
    unfold f_R_takesText
    rw [rm_it, bind_s, nm_9, hn, o2, bind_s, o3, bind_s, nm_9]
  have her : er = 0 := by
    have h := first_ok
    rw [hv] at h
    have h2 : (st3 v 13 0 9 0) 13 0 16 = 0 := Option.some.inj h
    rw [st3_ua, ua_N (by omega)] at h2
    exact o4.trans h2
  rcases o10 with ⟨z, -⟩ | ⟨-, m3, m4, m21, m36, m90, E, P, C, O, hST, hSH⟩
  · exact absurd her z
  have hvf : ∀ f, (f < 12 ∨ 17 < f) → f ≠ 9 → (st3 v 13 0 9 0) 13 0 f = nu0 13 0 f := fun f h9 h => by
    rw [st3_ua, ua_N h, f2 f h9, ← hn, st3_ua, ua_N h]
    exact rm_oth (by omega) TL
  have hvK : ∀ K, K ≠ 13 → K ≠ 40 → K ≠ 46 → (st3 v 13 0 9 0) K = nu0 K := fun K h1 h2 h3 => by
    rw [st3_K h1, f1 K h1 h2, ← hn, st3_K h1]
    funext j f
    exact rm_oth h3 TL
  have h40 : (st3 v 13 0 9 0) 40 = v 40 := st3_K (by omega)
  refine ⟨m, er, st3 v 13 0 9 0, o1, hv, ⟨1, E, P, C, O, 0, 0, 0, 0, 0, fun i => i + 2, 0, ⟨m3, m4⟩, m90, by rw [h40]; exact hST, by rw [h40]; exact hSH, by omega, ?_, ?_, ?_, ?_, ?_⟩, ?_, ?_⟩
  · refine ⟨by omega, m21, (hvf 6 (by omega) (by omega)), fun i hi => ⟨?_, by show 2 ≤ i + 2; omega, by show i + 2 < 10; omega⟩, fun i i' h1 h2 h3 => by have h4 : i + 2 = i' + 2 := h3; omega, fun i hi => absurd hi (Nat.not_lt_zero _)⟩
    rw [o9 34 0 (by omega) (by omega) (by omega) (by omega) (by omega) (by unfold inS; omega) (by omega) (by omega) (by omega), pm_oth (by omega) (by omega)]
    rfl
  · intro i hi
    refine Or.inl ⟨m36 i hi, ?_⟩
    rw [hvK 45 (by omega) (by omega) (by omega)]
    rfl
  · exact ⟨by omega, o6, by rw [st3_ua, ua_S]; rfl, fun i hi => absurd hi (Nat.not_lt_zero _)⟩
  · refine ⟨?_, ?_⟩
    · rw [o8 10 (by omega) (by omega), hvf 10 (by omega) (by omega), pm_oth (by omega) (by omega)]
      rfl
    · rw [o8 11 (by omega) (by omega), hvf 11 (by omega) (by omega), pm_oth (by omega) (by omega)]
      rfl
  · exact hvf 22 (by omega) (by omega)
  · rw [o8 12 (by omega) (by omega), pm_oth (by omega) (by omega)]
    rfl
  · exact hvf 28 (by omega) (by omega)

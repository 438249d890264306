/-! The builder goes on: numbers, toString. -/
/-- digits of a number: how many -/
def dl (w : Nat) : Nat := if w < 10 then 1 else if w < 100 then 2 else if w < 1000 then 3 else if w < 10000 then 4 else 5
/-- the digits of w, ending ahead of p -/
def wrd : Nat → (Nat → RV) → Nat → Nat → (Nat → RV)
  | 0, b, _, _ => b
  | k + 1, b, p, w => if w < 10 then updF b (p - 1) (.inl (.int (nI (48 + w)))) else wrd k (updF b (p - 1) (.inl (.int (nI (48 + w % 10))))) (p - 1) (w / 10)
def DG (g : GL) : Prop := g.2.2.2.2.2 200 = some (true, 2, 100, fun j => .inl (.int (nI (48 + j % 10)))) ∧ g.2.2.2.2.2 201 = some (true, 2, 100, fun j => .inl (.int (nI (48 + j / 10))))
theorem sa_do : ("java/lang/Integer", "DigitOnes", "[B", (.inr (1, 200) : Value ⊕ (Nat × Nat))) ∈ rSta := List.mem_cons_of_mem _ List.mem_cons_self
theorem sa_dt : ("java/lang/Integer", "DigitTens", "[B", (.inr (1, 201) : Value ⊕ (Nat × Nat))) ∈ rSta := List.mem_cons_of_mem _ (List.mem_cons_of_mem _ List.mem_cons_self)
def nJ (n : Nat) : Int32 := Int32.ofInt (-(n : Int))
theorem nJ_toInt {n : Nat} (h : n < 2 ^ 31) : (nJ n).toInt = -(n : Int) := by
  unfold nJ
  exact Int32.toInt_ofInt_of_le (by omega) (by omega)
theorem nJ_ext {x : Int32} {n : Nat} (h : n < 2 ^ 31) (e : x.toInt = -(n : Int)) : x = nJ n := by
  apply Int32.toInt_inj.mp
  rw [e, nJ_toInt h]
theorem nJ_of {n : Nat} (h : n < 2 ^ 31) : -(nI n) = nJ n := by
  apply nJ_ext h
  rw [Int32.toInt_neg, nI_toInt h]
  simp only [Int.bmod]
  omega
theorem nJ_neg {n : Nat} (h : n < 2 ^ 31) : -(nJ n) = nI n := by
  rw [← nJ_of h, Int32.neg_neg]
theorem nJ_lt {a b : Nat} (ha : a < 2 ^ 31) (hb : b < 2 ^ 31) : nJ a < nJ b ↔ b < a := by
  rw [Int32.lt_iff_toInt_lt, nJ_toInt ha, nJ_toInt hb]
  omega
theorem nJ_le {a b : Nat} (ha : a < 2 ^ 31) (hb : b < 2 ^ 31) : nJ a ≤ nJ b ↔ b ≤ a := by
  rw [Int32.le_iff_toInt_le, nJ_toInt ha, nJ_toInt hb]
  omega
section Digits
variable {g : GL} {G : RG} {nx : Nat}
theorem size_it (d : Nat) {M : RM} {v : Nat} (hv : v < 100000) : ∀ (n i : Nat), i + n = 6 → 1 ≤ i → (∀ j, j < i → 10 ^ j ≤ v ∨ j = 0) → (n = 0 → False) → Ev g d m_Integer_stringSize_0f7a4 16 [some (.inl (.int (nJ v))), some (.inl (.int 0)), some (.inl (.int (nJ (10 ^ i)))), some (.inl (.int (nI i)))] [] M 0 0 (pRO (rI (nI (dl v))) M) := by
  intro n
  induction n with
  | zero => intro i _ _ _ h; exact absurd rfl h
  | succ n ih =>
    intro i hi h1 hj _
    have hp : 10 ^ i ≤ 100000 := by
      have : 10 ^ i ≤ 10 ^ 5 := Nat.pow_le_pow_right (by decide) (by omega)
      omega
    have h5 : i ≤ 5 := by omega
    refine ev_iload_n (k0 := 3) rfl d_Integer_stringSize_0f7a4_16 ?_
    refine cw_bipush 10 d_Integer_stringSize_0f7a4_17 rfl ?_
    refine ev_icmp_ge (tgt := 42) (by decide) d_Integer_stringSize_0f7a4_19 (fun c => absurd (show nI 10 ≤ nI i from c) (nI_ge (by omega) (by omega))) (fun _ => ?_)
    refine ev_iload_n (k0 := 0) rfl d_Integer_stringSize_0f7a4_22 ?_
    refine ev_iload_n (k0 := 2) rfl d_Integer_stringSize_0f7a4_23 ?_
    refine ev_icmp_le (tgt := 31) (by decide) d_Integer_stringSize_0f7a4_24 (fun c => ?_) (fun c => ?_)
    · have c1 : 10 ^ i ≤ v := (nJ_le (by omega) (by omega)).mp c
      have hi5 : i ≠ 5 := by
        intro e
        subst e
        omega
      refine cw_bipush 10 d_Integer_stringSize_0f7a4_31 rfl ?_
      refine ev_iload_n (k0 := 2) rfl d_Integer_stringSize_0f7a4_33 ?_
      refine ev_imul d_Integer_stringSize_0f7a4_34 ?_
      have hp2 : 10 ^ (i + 1) ≤ 100000 := by
        have : 10 ^ (i + 1) ≤ 10 ^ 5 := Nat.pow_le_pow_right (by decide) (by omega)
        omega
      have em : nJ (10 ^ (i + 1)) = (10 : Int32) * nJ (10 ^ i) := by
        symm
        apply nJ_ext (by omega)
        rw [Int32.toInt_mul, nJ_toInt (by omega), show (10 : Int32).toInt = 10 by decide]
        rw [show (10 ^ (i + 1) : Nat) = 10 ^ i * 10 from Nat.pow_succ 10 i]
        simp only [Int.bmod]
        generalize 10 ^ i = z at *
        omega
      refine cw_istoreN_n 2 (nJ (10 ^ (i + 1))) em [some (.inl (.int (nJ v))), some (.inl (.int 0)), some (.inl (.int (nJ (10 ^ (i + 1))))), some (.inl (.int (nI i)))] d_Integer_stringSize_0f7a4_35 rfl rfl rfl ?_
      refine cw_iincN 3 1 [some (.inl (.int (nJ v))), some (.inl (.int 0)), some (.inl (.int (nJ (10 ^ (i + 1))))), some (.inl (.int (nI i + 1)))] d_Integer_stringSize_0f7a4_36 rfl rfl rfl rfl rfl ?_
      refine ev_goto (tgt := 16) (by decide) d_Integer_stringSize_0f7a4_39 ?_
      rw [nI_1]
      exact ih (i + 1) (by omega) (by omega) (fun j hj2 => by
        by_cases e : j = i
        · subst e; exact Or.inl c1
        · exact hj j (by omega)) (by omega)
    · have c1 : v < 10 ^ i := Nat.not_le.mp (fun z => c ((nJ_le (by omega) (by omega)).mpr z))
      refine ev_iload_n (k0 := 3) rfl d_Integer_stringSize_0f7a4_27 ?_
      refine ev_iload_n (k0 := 1) rfl d_Integer_stringSize_0f7a4_28 ?_
      refine ev_iadd d_Integer_stringSize_0f7a4_29 ?_
      have e : nI i + (0 : Int32) = nI (dl v) := by
        rw [Int32.add_zero]
        congr 1
        have h4 := hj (i - 1) (by omega)
        unfold dl
        rcases (show i = 1 ∨ i = 2 ∨ i = 3 ∨ i = 4 ∨ i = 5 by omega) with rfl | rfl | rfl | rfl | rfl <;> simp at c1 h4 <;> (repeat' split) <;> omega
      exact ev_ireturn (st := []) rfl rfl d_Integer_stringSize_0f7a4_30 ⟨by rw [e]; rfl, rfl⟩
theorem M_stringSize (d : Nat) {M : RM} {v : Nat} (hv : v < 100000) : Mt g d m_Integer_stringSize_0f7a4 [.inl (.int (nI v))] M 0 0 (pRO (rI (nI (dl v))) M) := by
  refine Mt.of9 [some (.inl (.int (nI v))), none, none, none] (by decide +kernel) rfl rfl rfl rfl ?_
  refine cw_iconst 1 d_Integer_stringSize_0f7a4_0 rfl ?_
  refine cw_istoreN_n 1 1 rfl [some (.inl (.int (nI v))), some (.inl (.int 1)), none, none] d_Integer_stringSize_0f7a4_1 rfl rfl rfl ?_
  refine ev_iload_n (k0 := 0) rfl d_Integer_stringSize_0f7a4_2 ?_
  refine ev_if_lt (tgt := 11) (by decide) d_Integer_stringSize_0f7a4_3 (fun c => absurd c (nI_pos (by omega))) (fun _ => ?_)
  refine cw_iconst 0 d_Integer_stringSize_0f7a4_6 rfl ?_
  refine cw_istoreN_n 1 0 rfl [some (.inl (.int (nI v))), some (.inl (.int 0)), none, none] d_Integer_stringSize_0f7a4_7 rfl rfl rfl ?_
  refine ev_iload_n (k0 := 0) rfl d_Integer_stringSize_0f7a4_8 ?_
  refine ev_ineg d_Integer_stringSize_0f7a4_9 ?_
  refine cw_istoreN_n 0 (nJ v) (nJ_of (by omega)).symm [some (.inl (.int (nJ v))), some (.inl (.int 0)), none, none] d_Integer_stringSize_0f7a4_10 rfl rfl rfl ?_
  refine cw_bipush (nJ 10) d_Integer_stringSize_0f7a4_11 (by decide +kernel) ?_
  refine cw_istoreN_n 2 (nJ 10) rfl [some (.inl (.int (nJ v))), some (.inl (.int 0)), some (.inl (.int (nJ 10))), none] d_Integer_stringSize_0f7a4_13 rfl rfl rfl ?_
  refine cw_iconst 1 d_Integer_stringSize_0f7a4_14 rfl ?_
  refine cw_istoreN_n 3 (nI 1) rfl [some (.inl (.int (nJ v))), some (.inl (.int 0)), some (.inl (.int (nJ 10))), some (.inl (.int (nI 1)))] d_Integer_stringSize_0f7a4_15 rfl rfl rfl ?_
  exact size_it d hv 5 1 rfl (by omega) (fun j hj => Or.inr (by omega)) (by omega)
theorem wrd_s {k p w : Nat} {b : Nat → RV} (h : w < 10) : wrd (k + 1) b p w = updF b (p - 1) (.inl (.int (nI (48 + w)))) := by
  show (if w < 10 then _ else _) = _
  rw [if_pos h]
theorem wrd_l {k p w : Nat} {b : Nat → RV} (h : 10 ≤ w) : wrd (k + 1) b p w = wrd k (updF b (p - 1) (.inl (.int (nI (48 + w % 10))))) (p - 1) (w / 10) := by
  show (if w < 10 then _ else _) = _
  rw [if_neg (by omega)]
theorem dl_le {w : Nat} : 1 ≤ dl w ∧ dl w ≤ 5 := by
  unfold dl
  repeat' split
  all_goals omega
theorem dl_10 {w : Nat} (h : 10 ≤ w) (h2 : w < 100000) : dl w = dl (w / 10) + 1 := by
  unfold dl
  repeat' split
  all_goals omega
theorem dl_s {w : Nat} (h : w < 10) : dl w = 1 := by
  unfold dl
  rw [if_pos h]
theorem wrd_at {i : Nat} : ∀ {k p w : Nat} {b : Nat → RV}, w < 10 ^ k → w < 100000 → 1 ≤ k → dl w ≤ p → wrd k b p w i = if p - dl w ≤ i ∧ i < p then .inl (.int (nI (48 + (w / 10 ^ (p - 1 - i)) % 10))) else b i
  | 0, _, _, _, _, _, h, _ => by omega
  | k + 1, p, w, b, hw, hw2, _, hp => by
    by_cases h : w < 10
    · rw [wrd_s h]
      rw [dl_s h] at hp ⊢
      unfold updF
      by_cases e : i = p - 1
      · rw [if_pos e, if_pos (by omega), show p - 1 - i = 0 by omega, Nat.pow_zero, Nat.div_one, Nat.mod_eq_of_lt h]
      · rw [if_neg e, if_neg (by omega)]
    · have h9 := dl_10 (show 10 ≤ w by omega) hw2
      have hk : 1 ≤ k := by
        cases k with
        | zero => simp at hw; omega
        | succ k => omega
      have hw3 : w / 10 < 10 ^ k := by
        rw [Nat.pow_succ] at hw
        exact Nat.div_lt_of_lt_mul (by omega)
      rw [wrd_l (by omega), wrd_at (k := k) hw3 (by omega) hk (by omega)]
      by_cases e : i = p - 1
      · rw [if_neg (by omega), if_pos (by omega), show p - 1 - i = 0 by omega, Nat.pow_zero, Nat.div_one]
        unfold updF
        rw [if_pos e]
      · by_cases e2 : p - dl w ≤ i ∧ i < p
        · rw [if_pos (by omega), if_pos e2, Nat.div_div_eq_div_mul, show (10 : Nat) * 10 ^ (p - 1 - 1 - i) = 10 ^ (p - 1 - i) by
            rw [show p - 1 - i = (p - 1 - 1 - i) + 1 by omega, Nat.pow_succ, Nat.mul_comm]]
        · rw [if_neg (by omega), if_neg e2]
          unfold updF
          rw [if_neg e]
theorem wrG2 {G : RG} {o : Nat} {c c' : RC} : wrG (wrG G o c) o c' = wrG G o c' := by
  funext q
  unfold wrG
  split <;> rfl
theorem dec9 {p : Nat} (h : 1 ≤ p) : nI p + (-1) = nI (p - 1) := by
  have e : nI p = nI (p - 1) + 1 := by rw [nI_1, Nat.sub_add_cancel h]
  rw [e, Int32.add_assoc]
  simp
theorem gc_end (d : Nat) (hD : DG g) {a cap p w k : Nat} {b : Nat → RV} {u3 u4 : Option RV} {x1 : Int32} (hu : wide1 (some u4) = false) (hk : w < 10 ^ k) (hk1 : 1 ≤ k) (hG : ∃ b0, G a = some (true, 2, cap, b0)) (hw : w < 100) (hp : dl w ≤ p) (hpc : p ≤ cap) (hc : cap ≤ 4000) :
    Ev g d m_Integer_getChars_ba4f3 72 [some (.inl (.int (nJ w))), some (.inl (.int x1)), some (.inr (0, a)), u3, u4, some (.inl (.int (nI p))), some (.inl (.int 0))] [] (wrG G a (true, 2, cap, b), nx) 0 0 (fun r M' => (∃ x, r = rI x) ∧ M' = (wrG G a (true, 2, cap, wrd k b p w), nx)) := by
  have hd1 := dl_le (w := w)
  have hu9 : ∀ {x y z v t : Option RV}, okst [x, y, z, v, u4, t, some (.inl (.int 0))] 5 = true := by
    intro x y z v t
    show (!wide1 (some u4)) = true
    rw [hu]
    rfl
  obtain ⟨k, rfl⟩ : ∃ q, k = q + 1 := ⟨k - 1, by omega⟩
  have hr : ∀ {b9 : Nat → RV}, rdM g (wrG G a (true, 2, cap, b9), nx) (1, 200) = some (true, 2, 100, fun j => .inl (.int (nI (48 + j % 10)))) := hD.1
  have hr2 : ∀ {b9 : Nat → RV}, rdM g (wrG G a (true, 2, cap, b9), nx) (1, 201) = some (true, 2, 100, fun j => .inl (.int (nI (48 + j / 10)))) := hD.2
  refine ev_aload_n (k0 := 2) rfl d_Integer_getChars_ba4f3_72 ?_
  refine cw_iincN 5 (-1) [some (.inl (.int (nJ w))), some (.inl (.int x1)), some (.inr (0, a)), u3, u4, some (.inl (.int (nI p + (-1)))), some (.inl (.int 0))] d_Integer_getChars_ba4f3_73 rfl hu9 rfl rfl rfl ?_
  rw [dec9 (by omega)]
  refine ev_iload (i := 5) rfl d_Integer_getChars_ba4f3_76 ?_
  refine ev_gets sa_do sj_Integer_83 (Or.inl rfl) d_Integer_getChars_ba4f3_78 ?_
  refine ev_iload_n (k0 := 0) rfl d_Integer_getChars_ba4f3_81 ?_
  refine ev_ineg d_Integer_getChars_ba4f3_82 ?_
  rw [nJ_neg (by omega)]
  refine ev_bald hr (vp_in_nI (by omega) (by omega)) d_Integer_getChars_ba4f3_83 ?_
  rw [nI_clamp (by omega)]
  refine ev_bast (M := (G, nx)) wrG_S (vp_in_nI (by omega) (by omega)) d_Integer_getChars_ba4f3_84 ?_
  rw [(by9 (by omega)).2.1, nI_clamp (by omega), wrG2]
  refine ev_iload_n (k0 := 0) rfl d_Integer_getChars_ba4f3_85 ?_
  refine cw_bipush (nJ 9) d_Integer_getChars_ba4f3_86 (by decide +kernel) ?_
  have tail : ∀ (q : Nat) (b9 : Nat → RV), b9 = wrd (k + 1) b p w → Ev g d m_Integer_getChars_ba4f3 104 [some (.inl (.int (nJ w))), some (.inl (.int x1)), some (.inr (0, a)), u3, u4, some (.inl (.int (nI q))), some (.inl (.int 0))] [] (wrG G a (true, 2, cap, b9), nx) 0 0 (fun r M' => (∃ x, r = rI x) ∧ M' = (wrG G a (true, 2, cap, wrd (k + 1) b p w), nx)) := fun q b9 e9 => by
    subst e9
    refine ev_iload (i := 6) rfl d_Integer_getChars_ba4f3_104 ?_
    refine ev_if_eq (tgt := 118) (by decide) d_Integer_getChars_ba4f3_106 (fun _ => ?_) (fun c => absurd rfl c)
    refine ev_iload (i := 5) rfl d_Integer_getChars_ba4f3_118 ?_
    exact ev_ireturn (st := []) rfl rfl d_Integer_getChars_ba4f3_120 ⟨⟨_, rfl⟩, rfl⟩
  refine ev_icmp_ge (tgt := 104) (by decide) d_Integer_getChars_ba4f3_88 (fun c => ?_) (fun c => ?_)
  · have c1 : w ≤ 9 := (nJ_le (by omega) (by omega)).mp c
    exact tail _ _ (by rw [wrd_s (by omega), Nat.mod_eq_of_lt (by omega)])
  · have c1 : 10 ≤ w := by
      have : ¬ w ≤ 9 := fun z => c ((nJ_le (by omega) (by omega)).mpr z)
      omega
    have hd2 : dl w = 2 := by rw [dl_10 c1 (by omega), dl_s (by omega)]
    refine ev_aload_n (k0 := 2) rfl d_Integer_getChars_ba4f3_91 ?_
    refine cw_iincN 5 (-1) [some (.inl (.int (nJ w))), some (.inl (.int x1)), some (.inr (0, a)), u3, u4, some (.inl (.int (nI (p - 1) + (-1)))), some (.inl (.int 0))] d_Integer_getChars_ba4f3_92 rfl hu9 rfl rfl rfl ?_
    rw [dec9 (by omega)]
    refine ev_iload (i := 5) rfl d_Integer_getChars_ba4f3_95 ?_
    refine ev_gets sa_dt sj_Integer_87 (Or.inl rfl) d_Integer_getChars_ba4f3_97 ?_
    refine ev_iload_n (k0 := 0) rfl d_Integer_getChars_ba4f3_100 ?_
    refine ev_ineg d_Integer_getChars_ba4f3_101 ?_
    rw [nJ_neg (by omega)]
    refine ev_bald hr2 (vp_in_nI (by omega) (by omega)) d_Integer_getChars_ba4f3_102 ?_
    rw [nI_clamp (by omega)]
    refine ev_bast (M := (G, nx)) wrG_S (vp_in_nI (by omega) (by omega)) d_Integer_getChars_ba4f3_103 ?_
    rw [(by9 (by omega)).2.1, nI_clamp (by omega), wrG2]
    have hk2 : 1 ≤ k := by
      cases k with
      | zero => simp at hk; omega
      | succ k => omega
    obtain ⟨k, rfl⟩ : ∃ q, k = q + 1 := ⟨k - 1, by omega⟩
    exact tail _ _ (by rw [wrd_l c1, wrd_s (by omega)])
end Digits

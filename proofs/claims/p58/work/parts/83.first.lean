/-! The first numbers of the class. -/
def mu0 : Mem := fun K _ f => if K = 5 then (if f = 3 then -1 else 0) else if K = 6 then (if f = 5 then -1 else 0) else if K = 8 then (if f = 5 then -1 else 0) else if K = 10 then (if f = 4 then -1 else 0) else if K = 12 then (if f = 4 then 1 else if f = 11 then -1 else if f = 12 then -1 else 0) else if K = 34 then nI (f + 2) else 0
def rvE : RV → RV → Bool
  | .inl (.int x), .inl (.int y) => decide (x = y)
  | .inr a, .inr b => decide (a = b)
  | _, _ => false
theorem rvE_ok : ∀ {a b : RV}, rvE a b = true → a = b := by
  intro a b h
  unfold rvE at h
  split at h
  · rw [of_decide_eq_true h]
  · rw [of_decide_eq_true h]
  · cases h
def ceB (c c' : RC) : Bool := decide (c.1 = c'.1) && (decide (c.2.1 = c'.2.1) && (decide (c.2.2.1 = c'.2.2.1) && (List.range (if c.1 then c.2.2.1 else nF c.2.1)).all (fun k => rvE (c.2.2.2 k) (c'.2.2.2 k))))
theorem ceB_ok {c c' : RC} (h : ceB c c' = true) : CE c c' := by
  unfold ceB at h
  rw [Bool.and_eq_true, Bool.and_eq_true, Bool.and_eq_true] at h
  obtain ⟨h1, h2, h3, h4⟩ := h
  exact ⟨of_decide_eq_true h1, of_decide_eq_true h2, of_decide_eq_true h3, fun k hk => rvE_ok (List.all_eq_true.mp h4 k (List.mem_range.mpr hk))⟩
def celD (μ : Mem) (q : Nat) : RC := cel μ (decO q).1 (decO q).2
set_option maxRecDepth 100000 in
theorem pC_cel : (List.range 535).all (fun q => ceB (pC 0 q) (celD mu0 q)) = true := by decide +kernel
def MG (μ : Mem) (lo hi : Nat) (F : RG) : RG := fun q => if lo ≤ q ∧ q < hi then some (celD μ q) else F q
theorem MG_c {μ : Mem} {F : RG} : LM vc 0 535 μ F (MG μ 0 535 F) := by
  refine ⟨fun K j hv => ?_, fun q hq => if_neg (by omega)⟩
  have h := okC.2 K j hv
  unfold MG
  rw [if_pos h]
  unfold celD
  rw [vc_dec hv]
theorem alloc_norm {G : RG} (h : ∀ i, i < 535 → AT G (0 + i) (pC 0 i)) : ∀ o c', MG mu0 0 535 (fun _ => none) o = some c' → ∃ c, G o = some c ∧ CE c c' := by
  intro o c' hc
  unfold MG at hc
  by_cases e : 0 ≤ o ∧ o < 535
  · rw [if_pos e] at hc
    obtain rfl := Option.some.inj hc
    obtain ⟨c, h1, h2⟩ := h o e.2
    rw [Nat.zero_add] at h1
    have h3 := ceB_ok (List.all_eq_true.mp pC_cel o (List.mem_range.mpr e.2))
    refine ⟨c, h1, h2.1.trans h3.1, h2.2.1.trans h3.2.1, h2.2.2.1.trans h3.2.2.1, fun k hk => (h2.2.2.2 k hk).trans (h3.2.2.2 k ?_)⟩
    have a1 := h2.1
    have a2 := h2.2.1
    have a3 := h2.2.2.1
    rw [← a1, ← a2, ← a3]
    exact hk
  · rw [if_neg e] at hc
    cases hc

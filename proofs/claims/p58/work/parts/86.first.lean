/-! The class's first state. -/
def okF (v : Int32 × Mem) : Bool := decide (v.2 12 0 3 = 1) && (decide (v.2 12 0 4 = 0) && (decide (v.2 11 0 1 = 0) && (List.range 8).all (fun i => decide (v.2 34 0 i = nI (i + 2)))))
set_option maxRecDepth 100000 in
theorem first_c : (f_P_openShop (pm TL)).map okF = some true := by decide +kernel
theorem first_m : ∃ er m, f_P_openShop (pm TL) = some (er, m) ∧ C00 1 m := by
  have h := first_c
  cases hm : f_P_openShop (pm TL) with
  | none => rw [hm] at h; cases h
  | some v =>
    rw [hm] at h
    replace h : okF v = true := Option.some.inj h
    unfold okF at h
    rw [Bool.and_eq_true, Bool.and_eq_true, Bool.and_eq_true] at h
    obtain ⟨h1, h2, h3, h4⟩ := h
    refine ⟨v.1, v.2, rfl, by decide, of_decide_eq_true h1, of_decide_eq_true h2, of_decide_eq_true h3, fun i => i + 2, fun i hi => ⟨of_decide_eq_true (List.all_eq_true.mp h4 i (List.mem_range.mpr hi)), by show 2 ≤ i + 2; omega, by show i + 2 < 10; omega⟩, fun i i' _ _ e => Nat.add_right_cancel (show i + 2 = i' + 2 from e)⟩

/-! Cells that agree as far as the machine sees. -/
def nF (ci : Nat) : Nat := match vwCl[ci]? with
  | some r => r.2.2
  | none => 0
def CE (c c' : RC) : Prop := c.1 = c'.1 ∧ c.2.1 = c'.2.1 ∧ c.2.2.1 = c'.2.2.1 ∧ ∀ k, k < (if c.1 then c.2.2.1 else nF c.2.1) → c.2.2.2 k = c'.2.2.2 k
theorem CE.rf {c : RC} : CE c c := ⟨rfl, rfl, rfl, fun _ _ => rfl⟩
theorem arrV_ext {cA : ClassId} {n : Nat} {f f' : Nat → Value} (h : ∀ j, j < n → f j = f' j) : arrV cA n f = arrV cA n f' := by
  unfold arrV
  congr 1
  apply Array.ext
  · simp
  · intro i h1 h2
    simp at h1 ⊢
    exact h i h1
theorem cellAt.ce {g : GL} {U : State} {H : Heap} {a : Nat} {c c' : RC} (h : cellAt g U H a c) (e : CE c c') : cellAt g U H a c' := by
  obtain ⟨b, ei, n, f⟩ := c
  obtain ⟨b', ei', n', f'⟩ := c'
  obtain ⟨e1, e2, e3, e4⟩ := e
  replace e1 : b = b' := e1
  replace e2 : ei = ei' := e2
  replace e3 : n = n' := e3
  subst e1 e2 e3
  cases b with
  | false =>
    obtain ⟨r, cell, h1, h2, h3, h4, h5, h6, h7⟩ := h
    have hn : nF ei = r.2.2 := by unfold nF; rw [h1]
    refine ⟨r, cell, h1, h2, h3, h4, h5, h6, fun k hk => ?_⟩
    have := e4 k (show k < nF ei by omega)
    rw [h7 k hk, show f k = f' k from this]
  | true =>
    obtain ⟨ty, cell, h1, h2, h3, h4, h5, h6, h7, h8⟩ := h
    have e5 : ∀ j, j < n → f j = f' j := fun j hj => e4 j hj
    refine ⟨ty, cell, h1, h2, h3, h4, h5, h6, fun q => (h7 q).trans (arrV_ext (fun j hj => by rw [e5 j hj])), fun j hj => by rw [h8 j hj, e5 j hj]⟩
theorem Ev.norm {g : GL} {d : Nat} {mi : MI} {pc : Nat} {ls : List (Option RV)} {st : List RV} {G G' : RG} {nx mc ms : Nat} {Post : RO → RM → Prop} (h : Ev g d mi pc ls st (G', nx) mc ms Post) (hc : ∀ o c', G' o = some c' → ∃ c, G o = some c ∧ CE c c') : Ev g d mi pc ls st (G, nx) mc ms Post := by
  intro p e R s m args below meth c H locs cells slots lsA TC TS hC hM hS hl h1 h2 h3 h4
  refine h p e R s m args below meth c H locs cells slots lsA TC TS hC ⟨hM.1, fun o c' hc' => ?_⟩ hS hl h1 h2 h3 h4
  obtain ⟨c9, q1, q2⟩ := hc o c' hc'
  exact (hM.2 o c9 q1).ce q2
/-- the object (K, j) lies where it shall, with the numbers of μ -/
def CK (μ : Mem) (G : RG) (K j : Nat) : Prop := ∃ c, G (off K j) = some c ∧ CE c (cel μ K j)

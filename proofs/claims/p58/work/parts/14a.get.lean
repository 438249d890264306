/-! getfield, by what the pool says of it. -/
/-- what an entry of a class's pool says of a field that is read -/
def FLg (own : String) (idx ci k : Nat) : Prop :=
  ∃ (C : String) (T : u_T) (N : Nat) (ty : Nat → FieldType) (ref : String), CO ci C T N ty ∧ k < N ∧ Cond.fieldLink own idx ref (T k).2.1 (T k).2.2.1 ∈ lw_good ∧ (ref = (T k).1 ∨ Cond.sameField ref (T k).1 (T k).2.1 (T k).2.2.1 ∈ lw_good)
theorem ev_getg {g : GL} {d : Nat} {mi : MI} {pc : Nat} {ls : List (Option RV)} {st : List RV} {M : RM} {mc ms : Nat} {Post : RO → RM → Prop} {ci kf idx n : Nat} {r : Nat × Nat} {f : Nat → RV} (fl : FLg mi.1.cls idx ci kf) (hr0 : rdM g M r = some (false, ci, n, f)) (hd : decode mi.2.1 pc = .ok (.getfield idx, 3)) (k : Ev g d mi (pc + 3) ls (f kf :: st) M mc ms Post) : Ev g d mi pc ls (.inr r :: st) M mc ms Post := by
  intro p e R s m args below meth c H locs cells slots lsA TC TS hC hM hS hl h1 h2 h3 h4
  obtain ⟨hx, hb, hml, hown, hr, hlk, hxt, hts, hK, hf, hlo, hnm⟩ := id hC
  obtain ⟨C, T, N, ty, ref, ⟨co, hin, hty, hnmx⟩, hk, hlink, hsame⟩ := fl
  obtain ⟨r9, cell, q1, q2, q3, q4, q5, q6, q7⟩ := cell_of hM hS hK hr0
  cases co.symm.trans q1
  obtain ⟨hSl, hfc, kC, hkC, hkind⟩ := hK.2.1.1 ci _ co
  obtain ⟨cf, kf9, fi, fd, hi, hsl⟩ := hSl kf hk
  rw [List.map_cons, conc_ref]
  refine W.getf hx hb hown (hts _ hlink) (fl_same hts hsame _ hi) (u_facts hfc hkC (u_lays hts hin hk) hi).1 q2 q4 (v := conc g (f kf)) ?_ rfl rfl hd (k p e R s m args below meth c H locs cells slots lsA TC TS hC hM hS hl h1 h2 h3 h4)
  rw [hsl]
  exact q7 kf hk
theorem cv_get9 {g : GL} {d : Nat} {mi : MI} {pc : Nat} {ls : List (Option RV)} {st : List RV} {mc ms : Nat} {Post : RO → RM → Prop} {V : Nat → Nat → Prop} {lo hi nx : Nat} {μ : Mem} {F G : RG} {K j kf idx : Nat} (v : RV) (hG : LM V lo hi μ F G) (hv : V K j) (fl : FLg mi.1.cls idx (ixK K) kf) (hA : isA K = false) (hf : fld K j kf (μ K j kf) = v) (hd : decode mi.2.1 pc = .ok (.getfield idx, 3)) (k : Ev g d mi (pc + 3) ls (v :: st) (G, nx) mc ms Post) : Ev g d mi pc ls (.inr (0, off K j) :: st) (G, nx) mc ms Post := by
  have h1 := hG.1 K j hv
  unfold cel at h1
  rw [hA] at h1
  subst hf
  exact ev_getg (M := (G, nx)) fl h1 hd k

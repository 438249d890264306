
theorem cellAt.kept {g : GL} {U : State} {H H1 : Heap} {a : Nat} {c : RC} (h : cellAt g U H a c) (e : H1[a]? = H[a]?) : cellAt g U H1 a c := by
  obtain ⟨b, i, n, f⟩ := c
  cases b with
  | false =>
    obtain ⟨r, cell, q1, q2, q3⟩ := h
    exact ⟨r, cell, q1, by rw [e]; exact q2, q3⟩
  | true =>
    obtain ⟨ty, cell, q1, q2, q3⟩ := h
    exact ⟨ty, cell, q1, by rw [e]; exact q2, q3⟩
theorem cellAt.moved {g : GL} {u U : State} {H : Heap} {a : Nat} {c : RC} (hvm : u.vm.Alike U.vm) (h : cellAt g u H a c) : cellAt g U H a c := by
  obtain ⟨b, i, n, f⟩ := c
  cases b with
  | false => exact h
  | true =>
    obtain ⟨ty, cell, q1, q2, q3, q4, q5, q6, q7⟩ := h
    exact ⟨ty, cell, q1, q2, State.isArrayOf_alike hvm q3, q4, q5, ⟨q6.1, fun e hb => by rw [hvm.findClass]; exact q6.2 e hb⟩, q7⟩
theorem cellAt.lt {g : GL} {U : State} {H : Heap} {a : Nat} {c : RC} (h : cellAt g U H a c) : a < H.size := by
  obtain ⟨b, i, n, f⟩ := c
  cases b with
  | false =>
    obtain ⟨r, cell, q1, q2, q3⟩ := h
    exact (Array.getElem?_eq_some_iff.mp q2).1
  | true =>
    obtain ⟨ty, cell, q1, q2, q3⟩ := h
    exact (Array.getElem?_eq_some_iff.mp q2).1
/-- the cell of a reference, in the heap as it is now -/
theorem cell_of {g : GL} {M : RM} {s : State} {H : Heap} {locs : List Loc} (hM : MR g M s H) (hS : va_S (rA g) s.heap H locs) (hK : KU g s s.heap) {r : Nat × Nat} {c : RC} (h : rdM g M r = some c) : cellAt g s H (adM g r) c := by
  obtain ⟨a, o⟩ := r
  cases a with
  | zero => exact hM.2 o c h
  | succ a =>
    obtain ⟨-, -, -, -, -, -, hO, hbs, -⟩ := hK
    obtain ⟨h1, h2⟩ := hO o c h
    exact h2.kept (hS.2.1 _ h2.lt (by show ¬ g.2.2.2.1 ≤ g.2.2.2.2.1 o; omega))
def wrG (G : RG) (o : Nat) (c : RC) : RG := fun q => if q = o then some c else G q
def updF (f : Nat → RV) (k : Nat) (v : RV) : Nat → RV := fun j => if j = k then v else f j
/-- a class of the list, its fields and their words -/
def CO (ci : Nat) (C : String) (T : u_T) (N : Nat) (ty : Nat → FieldType) : Prop :=
  vwCl[ci]? = some (C, T, N) ∧ (∀ w ∈ u_ws C T N, w ∈ lw_good) ∧ (∀ k, k < N → parseFieldDescriptor (T k).2.2.1 = some (ty k)) ∧ ∀ a, a < N → ∀ b, b < N → a ≠ b → (T a).2.1 ≠ (T b).2.1
/-- what an entry of a class's pool says of a field of objects of class ci: its place, whether it is final and of this class, its type -/
def FL (own : String) (idx ci k : Nat) (fin : Bool) (fty : FieldType) : Prop :=
  ∃ (C : String) (T : u_T) (N : Nat) (ty : Nat → FieldType) (ref : String), CO ci C T N ty ∧ k < N ∧ Cond.fieldLink own idx ref (T k).2.1 (T k).2.2.1 ∈ lw_good ∧ (ref = (T k).1 ∨ Cond.sameField ref (T k).1 (T k).2.1 (T k).2.2.1 ∈ lw_good) ∧ (T k).2.2.2 = fin ∧ (fin = true → (T k).1 = own) ∧ ty k = fty
theorem fl_same {s : State} {args : Array Value} {ref o n d : String} (hts : ∀ w ∈ lw_good, w.before args s = true) (h : ref = o ∨ Cond.sameField ref o n d ∈ lw_good) : ∀ x, s.fieldFound? o n d = some x → s.fieldFound? ref n d = some x := by
  rcases h with rfl | h
  · exact fun _ h => h
  · exact fun x hx => u_same (hts _ h) x hx
theorem ev_getf {g : GL} {d : Nat} {mi : MI} {pc : Nat} {ls : List (Option RV)} {st : List RV} {M : RM} {mc ms : Nat} {Post : RO → RM → Prop} {ci kf idx n : Nat} {fin : Bool} {fty : FieldType} {r : Nat × Nat} {f : Nat → RV} (fl : FL mi.1.cls idx ci kf fin fty) (hr0 : rdM g M r = some (false, ci, n, f)) (hd : decode mi.2.1 pc = .ok (.getfield idx, 3)) (k : Ev g d mi (pc + 3) ls (f kf :: st) M mc ms Post) : Ev g d mi pc ls (.inr r :: st) M mc ms Post := by
  intro p e R s m args below meth c H locs cells slots lsA TC TS hC hM hS hl h1 h2 h3 h4
  obtain ⟨hx, hb, hml, hown, hr, hlk, hxt, hts, hK, hf, hlo, hnm⟩ := id hC
  obtain ⟨C, T, N, ty, ref, ⟨co, hin, hty, hnmx⟩, hk, hlink, hsame, hfin, -, hfty⟩ := fl
  obtain ⟨r9, cell, q1, q2, q3, q4, q5, q6, q7⟩ := cell_of hM hS hK hr0
  cases co.symm.trans q1
  obtain ⟨hSl, hfc, kC, hkC, hkind⟩ := hK.2.1.1 ci _ co
  obtain ⟨cf, kf9, fi, fd, hi, hsl⟩ := hSl kf hk
  rw [List.map_cons, conc_ref]
  refine W.getf hx hb hown (hts _ hlink) (fl_same hts hsame _ hi) (u_facts hfc hkC (u_lays hts hin hk) hi).1 q2 q4 (v := conc g (f kf)) ?_ rfl rfl hd (k p e R s m args below meth c H locs cells slots lsA TC TS hC hM hS hl h1 h2 h3 h4)
  rw [hsl]
  exact q7 kf hk
def okv (g : GL) (t : FieldType) (v : RV) : Prop := narrow t (conc g v) = conc g v ∧ fits t (conc g v) = true
theorem conc_upd (g : GL) (f : Nat → RV) (k : Nat) (v : RV) : ∀ j, conc g (updF f k v j) = if j = k then conc g v else conc g (f j) := fun j => by unfold updF; split <;> rfl
/-- a cell of the new ones is written: the memory behind it -/
theorem MR.wr {g : GL} {G : RG} {nx o : Nat} {c c0 : RC} {s : State} {H H1 : Heap} (hM : MR g (G, nx) s H) (h0 : G o = some c0) (hz : H1.size = H.size) (hq : ∀ q, q ≠ g.2.2.2.1 + o → H1[q]? = H[q]?) (hc : cellAt g s H1 (g.2.2.2.1 + o) c) : MR g (wrG G o c, nx) s H1 := by
  refine ⟨by rw [hz]; exact hM.1, fun o1 c1 h1 => ?_⟩
  simp only [wrG] at h1
  by_cases e : o1 = o
  · subst e
    rw [if_pos rfl] at h1
    cases h1
    exact hc
  · rw [if_neg e] at h1
    exact (hM.2 o1 c1 h1).kept (hq _ (fun z => e (by omega)))
theorem slots_set {cell : Cell} {i j : Nat} {v w : Value} (h : cell.slots[j]? = some w) (hi : i < cell.slots.size) : (cell.setSlot i v).slots[j]? = some (if j = i then v else w) := by
  show (cell.slots.setIfInBounds i v)[j]? = _
  rw [Array.getElem?_setIfInBounds]
  by_cases e : i = j
  · subst e; simp [hi]
  · rw [if_neg e, if_neg (Ne.symm e)]; exact h
theorem ev_putf {g : GL} {d : Nat} {mi : MI} {pc : Nat} {ls : List (Option RV)} {st : List RV} {M : RM} {mc ms : Nat} {Post : RO → RM → Prop} {ci kf idx n o nx : Nat} {G : RG} {fty : FieldType} {f : Nat → RV} {v : RV} (fl : FL mi.1.cls idx ci kf false fty) (hr0 : G o = some (false, ci, n, f)) (hv : okv g fty v) (hd : decode mi.2.1 pc = .ok (.putfield idx, 3)) (k : Ev g d mi (pc + 3) ls st (wrG G o (false, ci, n, updF f kf v), nx) mc ms Post) : Ev g d mi pc ls (v :: .inr (0, o) :: st) (G, nx) mc ms Post := by
  intro p e R s m args below meth c H locs cells slots lsA TC TS hC hM hS hl h1 h2 h3 h4
  obtain ⟨hx, hb, hml, hown, hr, hlk, hxt, hts, hK, hf, hlo, hnm⟩ := id hC
  obtain ⟨C, T, N, ty, ref, ⟨co, hin, hty, hnmx⟩, hk, hlink, hsame, hfin, -, hfty⟩ := fl
  obtain ⟨r9, cell, q1, q2, q3, q4, q5, q6, q7⟩ := hM.2 o _ hr0
  cases co.symm.trans q1
  have hap := va_apart (own := mi.1.cls) hts hin ty hty hnmx hK.2.1 co
  obtain ⟨hSl, hfc, kC, hkC, hkind⟩ := hK.2.1.1 ci _ co
  obtain ⟨cf, kf9, fi, fd, hi, hsl⟩ := hSl kf hk
  have hlay := hts _ (hin _ (u_in_lay hk))
  unfold u_lay at hlay
  rw [if_neg (by rw [hfin]; decide)] at hlay
  have hst := (u_facts hfc hkC (u_lays hts hin hk) hi).1
  have h6 := u_store hfc hkC hkind hlay hi ((hty kf hk).trans (congrArg some hfty)) hv.1 hv.2
  have hlt : fd.slot < cell.slots.size := by rw [hsl]; exact k2_hasslot (q7 kf hk)
  refine W.putK hx hb (f := fd) ⟨hown, hts _ hlink, ⟨_, _, _, fl_same hts hsame _ hi⟩, hst⟩ (by rw [q3]; exact h6) q2 (q6 (Nat.le_add_right _ _)) hlt rfl rfl hd fun H' e1 e2 e3 => ?_
  refine k p e R s m args below meth c H' _ cells slots lsA TC TS hC (hM.wr hr0 e2 e3 ⟨_, _, co, e1, q3, q4, q5, q6, fun j hj => ?_⟩) (hS.put e2 e3 (Nat.le_add_right _ _)) hl h1 h2 h3 h4
  rw [slots_set (q7 j hj) hlt, conc_upd, hsl]
  by_cases ej : j = kf
  · subst ej; simp
  · rw [if_neg ej, if_neg (fun z => ej (Classical.byContradiction fun z2 => hap j kf hj hk z2 z))]
theorem ev_putfF {g : GL} {d : Nat} {mi : MI} {pc : Nat} {ls : List (Option RV)} {st : List RV} {M : RM} {mc ms : Nat} {Post : RO → RM → Prop} {ci kf idx n o nx : Nat} {G : RG} {fty : FieldType} {f : Nat → RV} {v : RV} (fl : FL mi.1.cls idx ci kf true fty) (hini : mi.1.name = "<init>") (hr0 : G o = some (false, ci, n, f)) (hv : okv g fty v) (hd : decode mi.2.1 pc = .ok (.putfield idx, 3)) (k : Ev g d mi (pc + 3) ls st (wrG G o (false, ci, n, updF f kf v), nx) mc ms Post) : Ev g d mi pc ls (v :: .inr (0, o) :: st) (G, nx) mc ms Post := by
  intro p e R s m args below meth c H locs cells slots lsA TC TS hC hM hS hl h1 h2 h3 h4
  obtain ⟨hx, hb, hml, hown, hr, hlk, hxt, hts, hK, hf, hlo, hnm⟩ := id hC
  obtain ⟨C, T, N, ty, ref, ⟨co, hin, hty, hnmx⟩, hk, hlink, hsame, hfin, hdecl, hfty⟩ := fl
  obtain ⟨r9, cell, q1, q2, q3, q4, q5, q6, q7⟩ := hM.2 o _ hr0
  cases co.symm.trans q1
  have hap := va_apart (own := mi.1.cls) hts hin ty hty hnmx hK.2.1 co
  obtain ⟨hSl, hfc, kC, hkC, hkind⟩ := hK.2.1.1 ci _ co
  obtain ⟨cf, kf9, fi, fd, hi, hsl⟩ := hSl kf hk
  have hlay := hts _ (hin _ (u_in_lay hk))
  unfold u_lay at hlay
  rw [if_pos hfin] at hlay
  have hst := (u_facts hfc hkC (u_lays hts hin hk) hi).1
  have hcf : m.cls = cf := by
    obtain ⟨_, _, c', _, _, _, -, -, hf', -, -, -, hown2, -⟩ := Cond.laysFinal_spec hlay
    have e1 : c' = cf := by have := hi.symm.trans hf'; simp at this; exact this.1.symm
    rw [hdecl rfl] at hown2
    rw [← e1]; exact Option.some.inj (hown.symm.trans hown2)
  have h6 := u_fits hfc hkC hkind (Or.inr hlay) hi ((hty kf hk).trans (congrArg some hfty)) hv.1 hv.2
  have hlt : fd.slot < cell.slots.size := by rw [hsl]; exact k2_hasslot (q7 kf hk)
  refine W.putFinK hx hb hown (hts _ hlink) (fl_same hts hsame _ hi) hst hcf (by rw [hnm]; exact hini) (by rw [q3]; exact h6) q2 (q6 (Nat.le_add_right _ _)) hlt rfl rfl hd fun H' e1 e2 e3 => ?_
  refine k p e R s m args below meth c H' _ cells slots lsA TC TS hC (hM.wr hr0 e2 e3 ⟨_, _, co, e1, q3, q4, q5, q6, fun j hj => ?_⟩) (hS.put e2 e3 (Nat.le_add_right _ _)) hl h1 h2 h3 h4
  rw [slots_set (q7 j hj) hlt, conc_upd, hsl]
  by_cases ej : j = kf
  · subst ej; simp
  · rw [if_neg ej, if_neg (fun z => ej (Classical.byContradiction fun z2 => hap j kf hj hk z2 z))]
theorem ev_alen {g : GL} {d : Nat} {mi : MI} {pc : Nat} {ls : List (Option RV)} {st : List RV} {M : RM} {mc ms : Nat} {Post : RO → RM → Prop} {ei n : Nat} {r : Nat × Nat} {f : Nat → RV} (hr0 : rdM g M r = some (true, ei, n, f)) (hd : decode mi.2.1 pc = .ok (.arraylength, 1)) (k : Ev g d mi (pc + 1) ls (.inl (.int (Int32.ofNat n)) :: st) M mc ms Post) : Ev g d mi pc ls (.inr r :: st) M mc ms Post := by
  intro p e R s m args below meth c H locs cells slots lsA TC TS hC hM hS hl h1 h2 h3 h4
  obtain ⟨hx, hb, hml, hown, hr, hlk, hxt, hts, hK, hf, hlo, hnm⟩ := id hC
  obtain ⟨ty, cell, q1, q2, q3, q4, q5, q6, q8, q7⟩ := cell_of hM hS hK hr0
  rw [List.map_cons, conc_ref]
  exact W.alen hx hb q2 q3 q5.2 rfl rfl hd (k p e R s m args below meth c H locs cells slots lsA TC TS hC hM hS hl h1 h2 h3 h4)
theorem ev_iald {g : GL} {d : Nat} {mi : MI} {pc : Nat} {ls : List (Option RV)} {st : List RV} {M : RM} {mc ms : Nat} {Post : RO → RM → Prop} {n : Nat} {r : Nat × Nat} {f : Nat → RV} {i : Int32} (hr0 : rdM g M r = some (true, 0, n, f)) (hi : vp_in i n) (hd : decode mi.2.1 pc = .ok (.iaload, 1)) (k : Ev g d mi (pc + 1) ls (f i.toNatClampNeg :: st) M mc ms Post) : Ev g d mi pc ls (.inl (.int i) :: .inr r :: st) M mc ms Post := by
  intro p e R s m args below meth c H locs cells slots lsA TC TS hC hM hS hl h1 h2 h3 h4
  obtain ⟨hx, hb, hml, hown, hr, hlk, hxt, hts, hK, hf, hlo, hnm⟩ := id hC
  obtain ⟨ty, cell, q1, q2, q3, q4, q5, q6, q8, q7⟩ := cell_of hM hS hK hr0
  cases (show some FieldType.int = some ty from q1)
  rw [List.map_cons, List.map_cons, conc_ref]
  exact W.iald hx hb q2 q3 q4 (q5.inn hi) (q7 _ (Nat.not_le.mp fun z => hi (Or.inr z))) rfl rfl hd (k p e R s m args below meth c H locs cells slots lsA TC TS hC hM hS hl h1 h2 h3 h4)
theorem ev_zald {g : GL} {d : Nat} {mi : MI} {pc : Nat} {ls : List (Option RV)} {st : List RV} {M : RM} {mc ms : Nat} {Post : RO → RM → Prop} {n : Nat} {r : Nat × Nat} {f : Nat → RV} {i : Int32} (hr0 : rdM g M r = some (true, 1, n, f)) (hi : vp_in i n) (hd : decode mi.2.1 pc = .ok (.baload, 1)) (k : Ev g d mi (pc + 1) ls (f i.toNatClampNeg :: st) M mc ms Post) : Ev g d mi pc ls (.inl (.int i) :: .inr r :: st) M mc ms Post := by
  intro p e R s m args below meth c H locs cells slots lsA TC TS hC hM hS hl h1 h2 h3 h4
  obtain ⟨hx, hb, hml, hown, hr, hlk, hxt, hts, hK, hf, hlo, hnm⟩ := id hC
  obtain ⟨ty, cell, q1, q2, q3, q4, q5, q6, q8, q7⟩ := cell_of hM hS hK hr0
  cases (show some FieldType.boolean = some ty from q1)
  rw [List.map_cons, List.map_cons, conc_ref]
  exact W.zald hx hb q2 q3 q4 (q5.inn hi) (q7 _ (Nat.not_le.mp fun z => hi (Or.inr z))) rfl rfl hd (k p e R s m args below meth c H locs cells slots lsA TC TS hC hM hS hl h1 h2 h3 h4)
theorem ev_bald {g : GL} {d : Nat} {mi : MI} {pc : Nat} {ls : List (Option RV)} {st : List RV} {M : RM} {mc ms : Nat} {Post : RO → RM → Prop} {n : Nat} {r : Nat × Nat} {f : Nat → RV} {i : Int32} (hr0 : rdM g M r = some (true, 2, n, f)) (hi : vp_in i n) (hd : decode mi.2.1 pc = .ok (.baload, 1)) (k : Ev g d mi (pc + 1) ls (f i.toNatClampNeg :: st) M mc ms Post) : Ev g d mi pc ls (.inl (.int i) :: .inr r :: st) M mc ms Post := by
  intro p e R s m args below meth c H locs cells slots lsA TC TS hC hM hS hl h1 h2 h3 h4
  obtain ⟨hx, hb, hml, hown, hr, hlk, hxt, hts, hK, hf, hlo, hnm⟩ := id hC
  obtain ⟨ty, cell, q1, q2, q3, q4, q5, q6, q8, q7⟩ := cell_of hM hS hK hr0
  cases (show some FieldType.byte = some ty from q1)
  rw [List.map_cons, List.map_cons, conc_ref]
  exact W.bald hx hb q2 q3 q4 (q5.inn hi) (q7 _ (Nat.not_le.mp fun z => hi (Or.inr z))) rfl rfl hd (k p e R s m args below meth c H locs cells slots lsA TC TS hC hM hS hl h1 h2 h3 h4)
theorem ev_aald {g : GL} {d : Nat} {mi : MI} {pc : Nat} {ls : List (Option RV)} {st : List RV} {M : RM} {mc ms : Nat} {Post : RO → RM → Prop} {n ei : Nat} {C : String} {r : Nat × Nat} {f : Nat → RV} {i : Int32} (he : rTy[ei]? = some (.object C)) (hr0 : rdM g M r = some (true, ei, n, f)) (hi : vp_in i n) (hd : decode mi.2.1 pc = .ok (.aaload, 1)) (k : Ev g d mi (pc + 1) ls (f i.toNatClampNeg :: st) M mc ms Post) : Ev g d mi pc ls (.inl (.int i) :: .inr r :: st) M mc ms Post := by
  intro p e R s m args below meth c H locs cells slots lsA TC TS hC hM hS hl h1 h2 h3 h4
  obtain ⟨hx, hb, hml, hown, hr, hlk, hxt, hts, hK, hf, hlo, hnm⟩ := id hC
  obtain ⟨ty, cell, q1, q2, q3, q4, q5, q6, q8, q7⟩ := cell_of hM hS hK hr0
  cases he.symm.trans q1
  rw [List.map_cons, List.map_cons, conc_ref]
  exact W.aald hx hb q2 q3 rfl q4 (q5.inn hi) (q7 _ (Nat.not_le.mp fun z => hi (Or.inr z))) rfl rfl hd (k p e R s m args below meth c H locs cells slots lsA TC TS hC hM hS hl h1 h2 h3 h4)
theorem arrSet9 {g : GL} {U : State} {H1 : Heap} {a ei n i : Nat} {ty : FieldType} {f : Nat → RV} {cell : Cell} {v : RV} (q1 : rTy[ei]? = some ty) (e : H1[a]? = some (cell.setSlot i (conc g v))) (q3 : U.isArrayOf cell ty) (q4 : cell.vm ≠ .unknown) (q5 : szA cell.slots.size n) (q6 : (4 ≤ ei → cell.cls = g.2.2.1 ei) ∧ (ei = 2 → g.2.2.2.1 ≤ a → U.vm.findClass "[B" = some cell.cls)) (q8 : g.2.2.2.1 ≤ a → cell = arrV cell.cls n (fun j => conc g (f j))) (q7 : ∀ j, j < n → cell.slots[j]? = some (conc g (f j))) (hi : i < n) : cellAt g U H1 a (true, ei, n, updF f i v) := by
  refine ⟨ty, _, q1, e, q3, q4, ?_, q6, fun hb => ?_, fun j hj => ?_⟩
  · show szA (cell.slots.setIfInBounds i _).size n
    simpa using q5
  · have h9 := q8 hb
    have h8 : cell.setSlot i (conc g v) = (arrV cell.cls n (fun j => conc g (f j))).setSlot i (conc g v) := by rw [← h9]
    rw [h8, arrV_store]
    show _ = arrV cell.cls n _
    congr 1
    funext j
    rw [conc_upd]
    rfl
  · rw [slots_set (q7 j hj) (Nat.lt_of_lt_of_le hi q5.1), conc_upd]
theorem ev_iast {g : GL} {d : Nat} {mi : MI} {pc : Nat} {ls : List (Option RV)} {st : List RV} {M : RM} {mc ms : Nat} {Post : RO → RM → Prop} {n o nx : Nat} {G : RG} {f : Nat → RV} {i : Int32} {x : Int32} (hr0 : G o = some (true, 0, n, f)) (hi : vp_in i n) (hd : decode mi.2.1 pc = .ok (.iastore, 1)) (k : Ev g d mi (pc + 1) ls st (wrG G o (true, 0, n, updF f i.toNatClampNeg (.inl (.int x))), nx) mc ms Post) : Ev g d mi pc ls (.inl (.int x) :: .inl (.int i) :: .inr (0, o) :: st) (G, nx) mc ms Post := by
  intro p e R s m args below meth c H locs cells slots lsA TC TS hC hM hS hl h1 h2 h3 h4
  obtain ⟨hx, hb, hml, hown, hr, hlk, hxt, hts, hK, hf, hlo, hnm⟩ := id hC
  obtain ⟨ty, cell, q1, q2, q3, q4, q5, q6, q8, q7⟩ := hM.2 o _ hr0
  cases (show some FieldType.int = some ty from q1)
  refine W.iast hx hb q2 q3 q4 (q5.inn hi) rfl rfl hd fun H' e1 e2 e3 => ?_
  exact k p e R s m args below meth c H' _ cells slots lsA TC TS hC (hM.wr hr0 e2 e3 (arrSet9 (v := .inl (.int x)) q1 e1 q3 q4 q5 q6 q8 q7 (Nat.not_le.mp fun z => hi (Or.inr z)))) (hS.put e2 e3 (Nat.le_add_right _ _)) hl h1 h2 h3 h4
theorem ev_zast {g : GL} {d : Nat} {mi : MI} {pc : Nat} {ls : List (Option RV)} {st : List RV} {M : RM} {mc ms : Nat} {Post : RO → RM → Prop} {n o nx : Nat} {G : RG} {f : Nat → RV} {i : Int32} {x : Int32} (hr0 : G o = some (true, 1, n, f)) (hi : vp_in i n) (hd : decode mi.2.1 pc = .ok (.bastore, 1)) (k : Ev g d mi (pc + 1) ls st (wrG G o (true, 1, n, updF f i.toNatClampNeg (.inl (narrow .boolean (.int x)))), nx) mc ms Post) : Ev g d mi pc ls (.inl (.int x) :: .inl (.int i) :: .inr (0, o) :: st) (G, nx) mc ms Post := by
  intro p e R s m args below meth c H locs cells slots lsA TC TS hC hM hS hl h1 h2 h3 h4
  obtain ⟨hx, hb, hml, hown, hr, hlk, hxt, hts, hK, hf, hlo, hnm⟩ := id hC
  obtain ⟨ty, cell, q1, q2, q3, q4, q5, q6, q8, q7⟩ := hM.2 o _ hr0
  cases (show some FieldType.boolean = some ty from q1)
  refine W.zast hx hb q2 q3 q4 (q5.inn hi) rfl rfl hd fun H' e1 e2 e3 => ?_
  exact k p e R s m args below meth c H' _ cells slots lsA TC TS hC (hM.wr hr0 e2 e3 (arrSet9 (v := .inl (narrow .boolean (.int x))) q1 e1 q3 q4 q5 q6 q8 q7 (Nat.not_le.mp fun z => hi (Or.inr z)))) (hS.put e2 e3 (Nat.le_add_right _ _)) hl h1 h2 h3 h4
theorem ev_bast {g : GL} {d : Nat} {mi : MI} {pc : Nat} {ls : List (Option RV)} {st : List RV} {M : RM} {mc ms : Nat} {Post : RO → RM → Prop} {n o nx : Nat} {G : RG} {f : Nat → RV} {i : Int32} {x : Int32} (hr0 : G o = some (true, 2, n, f)) (hi : vp_in i n) (hd : decode mi.2.1 pc = .ok (.bastore, 1)) (k : Ev g d mi (pc + 1) ls st (wrG G o (true, 2, n, updF f i.toNatClampNeg (.inl (narrow .byte (.int x)))), nx) mc ms Post) : Ev g d mi pc ls (.inl (.int x) :: .inl (.int i) :: .inr (0, o) :: st) (G, nx) mc ms Post := by
  intro p e R s m args below meth c H locs cells slots lsA TC TS hC hM hS hl h1 h2 h3 h4
  obtain ⟨hx, hb, hml, hown, hr, hlk, hxt, hts, hK, hf, hlo, hnm⟩ := id hC
  obtain ⟨ty, cell, q1, q2, q3, q4, q5, q6, q8, q7⟩ := hM.2 o _ hr0
  cases (show some FieldType.byte = some ty from q1)
  refine W.bast hx hb q2 q3 q4 (q5.inn hi) rfl rfl hd fun H' e1 e2 e3 => ?_
  exact k p e R s m args below meth c H' _ cells slots lsA TC TS hC (hM.wr hr0 e2 e3 (arrSet9 (v := .inl (narrow .byte (.int x))) q1 e1 q3 q4 q5 q6 q8 q7 (Nat.not_le.mp fun z => hi (Or.inr z)))) (hS.put e2 e3 (Nat.le_add_right _ _)) hl h1 h2 h3 h4
theorem ev_aast {g : GL} {d : Nat} {mi : MI} {pc : Nat} {ls : List (Option RV)} {st : List RV} {M : RM} {mc ms : Nat} {Post : RO → RM → Prop} {n o nx ei ci n2 : Nat} {G : RG} {f f2 : Nat → RV} {i : Int32} {rv : Nat × Nat} {r9 : vw_C} (hc : vwCl[ci]? = some r9) (he : rTy[ei]? = some (.object r9.1)) (h4e : 4 ≤ ei) (hr0 : G o = some (true, ei, n, f)) (hv : rdM g (G, nx) rv = some (false, ci, n2, f2)) (hi : vp_in i n) (hd : decode mi.2.1 pc = .ok (.aastore, 1)) (k : Ev g d mi (pc + 1) ls st (wrG G o (true, ei, n, updF f i.toNatClampNeg (.inr rv)), nx) mc ms Post) : Ev g d mi pc ls (.inr rv :: .inl (.int i) :: .inr (0, o) :: st) (G, nx) mc ms Post := by
  intro p e R s m args below meth c H locs cells slots lsA TC TS hC hM hS hl h1 h2 h3 h4
  obtain ⟨hx, hb, hml, hown, hr, hlk, hxt, hts, hK, hf, hlo, hnm⟩ := id hC
  obtain ⟨ty, cell, q1, q2, q3, q4, q5, q6, q8, q7⟩ := hM.2 o _ hr0
  cases he.symm.trans q1
  obtain ⟨r8, cellV, g1, g2, g3, g4, g5, g6, g7⟩ := cell_of hM hS hK hv
  cases hc.symm.trans g1
  have hcls := (hK.2.1.1 ci r9 hc).2
  have ht : (rTys g)[ei]? = some (g.2.2.1 ei, .object r9.1) := by
    unfold rTys
    rw [List.getElem?_mapIdx, he]
    rfl
  obtain ⟨kA, comp, k1, k2, k3, -⟩ := (hK.2.1.2 ei _ ht).2
  have hcomp : comp = g.2.1.1 ci := Option.some.inj (k3.symm.trans hcls.1)
  subst hcomp
  obtain ⟨kC, hkC, -⟩ := hcls.2
  have hlt : i.toNatClampNeg < n := Nat.not_le.mp fun q => hi (Or.inr q)
  rw [List.map_cons, conc_ref]
  refine W.aast hx hb q2 (fun q h => q3.1 q h) q4 (by rw [q6.1 h4e]; exact k1) k2 rfl hkC ⟨fun q => hi (Or.inl q), Nat.lt_of_lt_of_le hlt q5.1⟩ g2 (fun q h => by rw [h] at g5; exact absurd g5 (by simp [VmData.isStatics])) (by rw [g3]; exact hkC) (by rw [g3]; exact va_assign hcls) rfl rfl hd fun H' e1 e2 e3 => ?_
  exact k p e R s m args below meth c H' _ cells slots lsA TC TS hC (hM.wr hr0 e2 e3 (arrSet9 (v := .inr rv) q1 (by rw [conc_ref]; exact e1) q3 q4 q5 q6 q8 q7 hlt)) (hS.put e2 e3 (Nat.le_add_right _ _)) hl h1 h2 h3 h4
/-- a cell more, behind the last -/
theorem MR.more {g : GL} {G : RG} {nx : Nat} {c : RC} {s : State} {H H1 : Heap} (hM : MR g (G, nx) s H) (hz : H1.size = H.size + 1) (hq : ∀ q, q < H.size → H1[q]? = H[q]?) (hc : cellAt g s H1 (g.2.2.2.1 + nx) c) : MR g (wrG G nx c, nx + 1) s H1 := by
  refine ⟨by rw [hz, hM.1]; show g.2.2.2.1 + nx + 1 = g.2.2.2.1 + (nx + 1); omega, fun o1 c1 h1 => ?_⟩
  simp only [wrG] at h1
  by_cases e : o1 = nx
  · subst e
    rw [if_pos rfl] at h1
    cases h1
    exact hc
  · rw [if_neg e] at h1
    have h9 := hM.2 o1 c1 h1
    exact h9.kept (hq _ h9.lt)
theorem va_S.more {A : Nat → Prop} {H0 H H1 : Heap} {locs : List Loc} (h : va_S A H0 H locs) (hz : H1.size = H.size + 1) (hq : ∀ q, q < H.size → H1[q]? = H[q]?) : va_S A H0 H1 locs := ⟨by rw [hz]; exact Nat.le_succ_of_le h.1, fun q h1 h2 => (hq q (Nat.lt_of_lt_of_le h1 h.1)).trans (h.2.1 q h1 h2), h.2.2⟩
def dflt (ty : Nat → FieldType) : Nat → RV := fun k => .inl (defaultValue (ty k))
theorem ev_new {g : GL} {d : Nat} {mi : MI} {pc : Nat} {ls : List (Option RV)} {st : List RV} {M : RM} {mc ms : Nat} {Post : RO → RM → Prop} {C : String} {T : u_T} {N ci idx nx : Nat} {ty : Nat → FieldType} {G : RG} (co : CO ci C T N ty) (hcl : Cond.classLink mi.1.cls idx C ∈ lw_good) (hins : Cond.instantiable C N ∈ lw_good) (hini : Cond.initialized C ∈ lw_good) (hd : decode mi.2.1 pc = .ok (.new idx, 3)) (k : Ev g d mi (pc + 3) ls (.inr (0, nx) :: st) (wrG G nx (false, ci, 0, dflt ty), nx + 1) mc ms Post) : Ev g d mi pc ls st (G, nx) (mc + 1) (ms + N) Post := by
  intro p e R s m args below meth c H locs cells slots lsA TC TS hC hM hS hl h1 h2 h3 h4
  obtain ⟨hx, hb, hml, hown, hr, hlk, hxt, hts, hK, hf, hlo, hnm⟩ := id hC
  obtain ⟨hc, hin, hty, hnmx⟩ := co
  have hKn := hK.2.1.1 ci _ hc
  have hz0 : H.size = g.2.2.2.1 + nx := hM.1
  refine W.newcK hx hb hown (hts _ hcl) (hts _ hins) (hts _ hini) rfl hd (by omega) (by omega) hKn.2.1 rfl fun H1 kC hkC e1 z1 o1 => ?_
  rw [hz0] at e1
  have ht := u_born ty hts hin hKn hkC e1 hty
  obtain ⟨cell, q1, q2, q3, q4⟩ := ht
  have q5 : cell.vm ≠ .unknown := fun h => by rw [q3] at h; cases h
  have q6 : cell.vm.isStatics = false := by rw [q3]; rfl
  refine W.eq (g2 := F0 m (pc + 3) lsA (((.inr (0, nx) :: st : List RV)).map (conc g))) (by rw [hz0]; rfl) (k p e R s m args below meth c H1 _ (cells + 1) (slots + N) lsA TC TS hC (hM.more z1 o1 ⟨_, cell, hc, q1, q2, q5, q6, fun _ => q3, fun j hj => q4 j hj⟩) (hS.more z1 o1) hl (by omega) (by omega) h3 h4)
theorem ev_newa {g : GL} {d : Nat} {mi : MI} {pc : Nat} {ls : List (Option RV)} {st : List RV} {M : RM} {mc ms : Nat} {Post : RO → RM → Prop} {ei nx n : Nat} {x : Int32} {at0 : ArrayType} {ty : FieldType} {G : RG} (hty : newarray.typeOf at0 = ty) (he : rTy[ei]? = some ty) (h4e : ei < 4) (hat : Cond.arrayClass ty ∈ lw_good) (hx0 : ¬ x < 0) (hn0 : x.toNatClampNeg = n) (hby : n * componentBytes ty ≤ 536870912) (hd : decode mi.2.1 pc = .ok (.newarray at0, 2)) (k : Ev g d mi (pc + 2) ls (.inr (0, nx) :: st) (wrG G nx (true, ei, n, fun _ => .inl (defaultValue ty)), nx + 1) mc ms Post) : Ev g d mi pc ls (.inl (.int x) :: st) (G, nx) (mc + 1) (ms + n) Post := by
  intro p e R s m args below meth c H locs cells slots lsA TC TS hC hM hS hl h1 h2 h3 h4
  obtain ⟨hx, hb, hml, hown, hr, hlk, hxt, hts, hK, hf, hlo, hnm⟩ := id hC
  subst hty
  have hz0 : H.size = g.2.2.2.1 + nx := hM.1
  refine va_newaK hx hb (hts _ hat) rfl hd rfl hx0 hn0 hby (by omega) (by omega) rfl fun H1 cA e1 z1 o1 hAr hNm => ?_
  rw [hz0] at e1
  have h9 : ei = 2 → s.vm.findClass "[B" = some cA := fun e2 => by
    subst e2
    have e9 : newarray.typeOf at0 = FieldType.byte := (Option.some.inj he).symm
    rw [e9] at hNm
    exact hNm
  refine W.eq (g2 := F0 m (pc + 2) lsA ((.inr (0, nx) :: st : List RV).map (conc g))) (by rw [hz0]; rfl) (k p e R s m args below meth c H1 _ (cells + 1) (slots + n) lsA TC TS hC (hM.more z1 o1 ⟨_, _, he, e1, hAr _ _, (fun h => by cases h), szA.of (arrV_size _ _ _), ⟨(fun h => absurd h (by omega)), fun e2 _ => h9 e2⟩, (fun _ => rfl), fun j hj => arrV_read _ _ hj⟩) (hS.more z1 o1) hl (by omega) (by omega) h3 h4)
theorem ev_newq {g : GL} {d : Nat} {mi : MI} {pc : Nat} {ls : List (Option RV)} {st : List RV} {M : RM} {mc ms : Nat} {Post : RO → RM → Prop} {ei idx nx n : Nat} {C : String} {x : Int32} {G : RG} (he : rTy[ei]? = some (.object C)) (hcl : Cond.classLink mi.1.cls idx C ∈ lw_good) (hov : Cond.arrayOver (.object C) ∈ lw_T) (hx0 : ¬ x < 0) (hn0 : x.toNatClampNeg = n) (hby : n * 4 ≤ 536870912) (hd : decode mi.2.1 pc = .ok (.anewarray idx, 3)) (k : Ev g d mi (pc + 3) ls (.inr (0, nx) :: st) (wrG G nx (true, ei, n, fun _ => .inl .null), nx + 1) mc ms Post) : Ev g d mi pc ls (.inl (.int x) :: st) (G, nx) (mc + 1) (ms + n) Post := by
  intro p e R s m args below meth c H locs cells slots lsA TC TS hC hM hS hl h1 h2 h3 h4
  obtain ⟨hx, hb, hml, hown, hr, hlk, hxt, hts, hK, hf, hlo, hnm⟩ := id hC
  subst hn0
  have hz0 : H.size = g.2.2.2.1 + nx := hM.1
  refine W.anew hx hb hown (hts _ hcl) (va_AO.use (hK.2.2.2.2.2.2.2.2.1 _ hov rfl)) rfl hd rfl hx0 hby (by omega) (by omega) fun cA kA comp f1 f2 f3 f4 => ?_
  have ht : (rTys g)[ei]? = some (g.2.2.1 ei, .object C) := by
    unfold rTys
    rw [List.getElem?_mapIdx, he]
    rfl
  obtain ⟨kA9, comp9, k1, k2, k3, k4⟩ := (hK.2.1.2 ei _ ht).2
  have ecA : cA = g.2.2.1 ei := Option.some.inj (f1.symm.trans k4)
  generalize hH1 : H.push ({ cls := cA, slots := Array.replicate x.toNatClampNeg .null, vm := .none } : Cell) = H1
  have z1 : H1.size = H.size + 1 := by rw [← hH1, Array.size_push]
  have e1 : H1[g.2.2.2.1 + nx]? = some (arrV cA x.toNatClampNeg (fun _ => .null)) := by rw [← hz0, ← hH1, Array.getElem?_push_size, ← arrV_new]
  have o1 : ∀ q : Nat, q < H.size → H1[q]? = H[q]? := fun q hq => by rw [← hH1, Array.getElem?_push, if_neg (Nat.ne_of_lt hq)]
  have hAr : ArrOfT s cA (.object C) := fun N z => ⟨(fun k h => by cases h), kA, f2, comp, f3⟩
  refine W.eq (g2 := F0 m (pc + 3) lsA ((.inr (0, nx) :: st : List RV).map (conc g))) (by rw [hz0]; rfl) (k p e R s m args below meth c H1 _ (cells + 1) (slots + x.toNatClampNeg) lsA TC TS hC (hM.more z1 o1 ⟨_, _, he, e1, hAr _ _, (fun h => by cases h), szA.of (arrV_size _ _ _), ⟨fun _ => ecA, fun e2 _ => by subst e2; cases (show some FieldType.byte = some (.object C) from he)⟩, (fun _ => rfl), fun j hj => arrV_read _ _ hj⟩) (hS.more z1 o1) hl (by omega) (by omega) h3 h4)

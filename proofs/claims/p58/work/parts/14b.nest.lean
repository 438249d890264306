/-! Private fields of a class of the same nest. -/
/-- what an entry of a class's pool says of a nest mate's private field -/
def FLn (own : String) (idx ci k : Nat) : Prop :=
  ∃ (C : String) (T : u_T) (N : Nat) (ty : Nat → FieldType) (ref host : String), CO ci C T N ty ∧ k < N ∧ Cond.fieldLinkNest own idx ref (T k).2.1 (T k).2.2.1 host ∈ lw_T ∧ ref = (T k).1
def FLp (own : String) (idx ci k : Nat) (fty : FieldType) : Prop :=
  ∃ (C : String) (T : u_T) (N : Nat) (ty : Nat → FieldType) (ref host : String), CO ci C T N ty ∧ k < N ∧ Cond.fieldLinkNest own idx ref (T k).2.1 (T k).2.2.1 host ∈ lw_T ∧ ref = (T k).1 ∧ (T k).2.2.2 = false ∧ ty k = fty
theorem W.getfM {p : Program} {l : Launch} {e : Env} {R : Room} {s : State} {m : MethodId} {args : Array Value} {below : List Frame} {meth : Method} {c : Code} {H : Heap} {locs : List Loc} {cells slots : Nat} {Q : State → Prop} {cc : ByteArray} (hexec : p.tables.exec = Jvm.exec) (hb : c.code = cc)
    {own ref name desc host : String} {index : Nat} (hown : s.vm.findClass own = some m.cls) (hlink : (Cond.fieldLinkNest own index ref name desc host).before args s = true)
    {cf i : Nat} {k : Class} {f : Field} (hi : s.fieldFound? ref name desc = some (cf, k, i, f)) (hst : f.isStatic = false)
    {a : Addr} {cell : Cell} {v : Value} (hcell : H[a]? = some cell) (hknown : cell.vm ≠ .unknown) (hslot : cell.slots[f.slot]? = some v)
    {g : JFrame} (hg : g.method = m) {rest : List Value} (hstack : g.stack = .ref a :: rest) (hdg : decode cc g.pc = .ok (.getfield index, 3))
    (kk : W p l e R s m args below meth c H locs cells slots Q { g with pc := g.pc + 3, stack := v :: rest }) : W p l e R s m args below meth c H locs cells slots Q g := by
  intro T hT X
  obtain ⟨vm', X', st⟩ := X.getfieldNest hexec hown hlink hi hst (by rw [hT]; exact hcell) hknown hslot hg hstack (by rw [hb]; exact hdg)
  obtain ⟨t, a1, b1⟩ := kk (T.setVm vm') hT X'
  exact ⟨t, st t a1, b1⟩
theorem W.putfM {p : Program} {l : Launch} {e : Env} {R : Room} {s : State} {m : MethodId} {args : Array Value} {below : List Frame} {meth : Method} {c : Code} {H : Heap} {locs : List Loc} {cells slots : Nat} {Q : State → Prop} {cc : ByteArray} (hexec : p.tables.exec = Jvm.exec) (hb : c.code = cc)
    {own ref name desc host : String} {index : Nat} (hown : s.vm.findClass own = some m.cls) (hlink : (Cond.fieldLinkNest own index ref name desc host).before args s = true)
    {cf i : Nat} {k : Class} {f : Field} (hi : s.fieldFound? ref name desc = some (cf, k, i, f)) (hst : f.isStatic = false) {a : Addr} {cell : Cell} {v : Value} (hS : k2_Sd s f cell.cls v)
    (hcell : H[a]? = some cell) (hvm : cell.vm = .none) (hlt : f.slot < cell.slots.size)
    {g : JFrame} (hg : g.method = m) {rest : List Value} (hstack : g.stack = v :: .ref a :: rest) (hdg : decode cc g.pc = .ok (.putfield index, 3))
    (kk : ∀ H' : Heap, H'[a]? = some (cell.setSlot f.slot v) → H'.size = H.size → (∀ q, q ≠ a → H'[q]? = H[q]?) → W p l e R s m args below meth c H' (locs ++ [⟨a, f.slot⟩]) cells slots Q { g with pc := g.pc + 3, stack := rest }) : W p l e R s m args below meth c H locs cells slots Q g := by
  have ha : a < H.size := (Array.getElem?_eq_some_iff.mp hcell).1
  intro T hT X
  subst hT; subst hb
  obtain ⟨vm', X', st⟩ := X.putfieldNest hexec hown hlink hi hst (Or.inl hS.1) hcell (by rw [hvm]; exact fun h => by cases h) hlt hS.2.1 (by rw [hvm]; exact hS.2.2) hg hstack hdg
  obtain ⟨t, a1, b1⟩ := kk (T.heap.setIfInBounds a (cell.setSlot f.slot v)) (by simp [Array.getElem?_setIfInBounds, ha]) (by simp) (fun q hq => by simp [Array.getElem?_setIfInBounds, Ne.symm hq]) _ (by rfl) X'
  exact ⟨t, st t a1, b1⟩
theorem ev_getN {g : GL} {d : Nat} {mi : MI} {pc : Nat} {ls : List (Option RV)} {st : List RV} {M : RM} {mc ms : Nat} {Post : RO → RM → Prop} {ci kf idx n : Nat} {r : Nat × Nat} {f : Nat → RV} (fl : FLn mi.1.cls idx ci kf) (hr0 : rdM g M r = some (false, ci, n, f)) (hd : decode mi.2.1 pc = .ok (.getfield idx, 3)) (k : Ev g d mi (pc + 3) ls (f kf :: st) M mc ms Post) : Ev g d mi pc ls (.inr r :: st) M mc ms Post := by
  intro p e R s m args below meth c H locs cells slots lsA TC TS hC hM hS hl h1 h2 h3 h4
  obtain ⟨hx, hb, hml, hown, hr, hlk, hxt, hts, hK, hf, hlo, hnm⟩ := id hC
  obtain ⟨C, T, N, ty, ref, host, ⟨co, hin, hty, hnmx⟩, hk, hlink, hsame⟩ := fl
  obtain ⟨r9, cell, q1, q2, q3, q4, q5, q6, q7⟩ := cell_of hM hS hK hr0
  cases co.symm.trans q1
  obtain ⟨hSl, hfc, kC, hkC, hkind⟩ := hK.2.1.1 ci _ co
  obtain ⟨cf, kf9, fi, fd, hi, hsl⟩ := hSl kf hk
  rw [List.map_cons, conc_ref]
  refine W.getfM hx hb hown (bad_any rfl (hK.2.2.2.2.2.2.2.2.1 _ hlink rfl)) (fl_same hts (Or.inl hsame) _ hi) (u_facts hfc hkC (u_lays hts hin hk) hi).1 q2 q4 (v := conc g (f kf)) ?_ rfl rfl hd (k p e R s m args below meth c H locs cells slots lsA TC TS hC hM hS hl h1 h2 h3 h4)
  rw [hsl]
  exact q7 kf hk
theorem ev_putN {g : GL} {d : Nat} {mi : MI} {pc : Nat} {ls : List (Option RV)} {st : List RV} {mc ms : Nat} {Post : RO → RM → Prop} {ci kf idx n o nx : Nat} {G : RG} {fty : FieldType} {f : Nat → RV} {v : RV} (fl : FLp mi.1.cls idx ci kf fty) (hr0 : G o = some (false, ci, n, f)) (hv : okv g fty v) (hd : decode mi.2.1 pc = .ok (.putfield idx, 3)) (k : Ev g d mi (pc + 3) ls st (wrG G o (false, ci, n, updF f kf v), nx) mc ms Post) : Ev g d mi pc ls (v :: .inr (0, o) :: st) (G, nx) mc ms Post := by
  intro p e R s m args below meth c H locs cells slots lsA TC TS hC hM hS hl h1 h2 h3 h4
  obtain ⟨hx, hb, hml, hown, hr, hlk, hxt, hts, hK, hf, hlo, hnm⟩ := id hC
  obtain ⟨C, T, N, ty, ref, host, ⟨co, hin, hty, hnmx⟩, hk, hlink, hsame, hfin, hfty⟩ := fl
  obtain ⟨r9, cell, q1, q2, q3, q4, q5, q6, q7⟩ := hM.2 o _ hr0
  cases co.symm.trans q1
  have hap := va_apart (own := mi.1.cls) hts hin ty hty hnmx hK.2.1 co
  obtain ⟨hSl, hfc, kC, hkC, hkind⟩ := hK.2.1.1 ci _ co
  obtain ⟨cf, kf9, fi, fd, hi, hsl⟩ := hSl kf hk
  have hlay := hts _ (hin _ (u_in_lay hk))
  unfold u_lay at hlay
  rw [if_neg (by rw [hfin]; decide)] at hlay
  have hst := (u_facts hfc hkC (u_lays hts hin hk) hi).1
  have h6 := u_store hfc hkC hkind hlay hi ((hty kf hk).trans (congrArg some hfty)) hv.1 hv.2
  have hlt : fd.slot < cell.slots.size := by rw [hsl]; exact k2_hasslot (q7 kf hk)
  refine W.putfM hx hb hown (bad_any rfl (hK.2.2.2.2.2.2.2.2.1 _ hlink rfl)) (fl_same hts (Or.inl hsame) _ hi) hst (by rw [q3]; exact h6) q2 (q6 (Nat.le_add_right _ _)) hlt rfl rfl hd fun H' e1 e2 e3 => ?_
  refine k p e R s m args below meth c H' _ cells slots lsA TC TS hC (hM.wr hr0 e2 e3 ⟨_, _, co, e1, q3, q4, q5, q6, fun j hj => ?_⟩) (hS.put e2 e3 (Nat.le_add_right _ _)) hl h1 h2 h3 h4
  rw [slots_set (q7 j hj) hlt, conc_upd, hsl]
  by_cases ej : j = kf
  · subst ej; simp
  · rw [if_neg ej, if_neg (fun z => ej (Classical.byContradiction fun z2 => hap j kf hj hk z2 z))]
theorem cv_getN {g : GL} {d : Nat} {mi : MI} {pc : Nat} {ls : List (Option RV)} {st : List RV} {mc ms : Nat} {Post : RO → RM → Prop} {V : Nat → Nat → Prop} {lo hi nx : Nat} {μ : Mem} {F G : RG} {K j kf idx : Nat} (v : RV) (hG : LM V lo hi μ F G) (hv : V K j) (fl : FLn mi.1.cls idx (ixK K) kf) (hA : isA K = false) (hf : fld K j kf (μ K j kf) = v) (hd : decode mi.2.1 pc = .ok (.getfield idx, 3)) (k : Ev g d mi (pc + 3) ls (v :: st) (G, nx) mc ms Post) : Ev g d mi pc ls (.inr (0, off K j) :: st) (G, nx) mc ms Post := by
  have h1 := hG.1 K j hv
  unfold cel at h1
  rw [hA] at h1
  subst hf
  exact ev_getN (M := (G, nx)) fl h1 hd k
theorem cv_putN {g : GL} {d : Nat} {mi : MI} {pc : Nat} {ls : List (Option RV)} {st : List RV} {mc ms : Nat} {Post : RO → RM → Prop} {V : Nat → Nat → Prop} {lo hi nx : Nat} {μ : Mem} {F G : RG} {K j kf idx : Nat} {fty : FieldType} (w : RV) (x : Int32) (hG : LM V lo hi μ F G) (hO : OKV V lo hi) (hv : V K j) (fl : FLp mi.1.cls idx (ixK K) kf fty) (hA : isA K = false) (hw : fld K j kf x = w) (ho : okv g fty w) (hd : decode mi.2.1 pc = .ok (.putfield idx, 3)) (k : ∀ G', LM V lo hi (st3 μ K j kf x) F G' → Ev g d mi (pc + 3) ls st (G', nx) mc ms Post) : Ev g d mi pc ls (w :: .inr (0, off K j) :: st) (G, nx) mc ms Post := by
  have h1 := hG.1 K j hv
  have h2 := hG.put (f := kf) (x := x) hO hv
  unfold cel at h1
  rw [hA] at h1 h2
  subst hw
  exact ev_putN fl h1 ho hd (k _ h2)

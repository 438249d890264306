
theorem ev_ldc {g : GL} {d : Nat} {mi : MI} {pc : Nat} {ls : List (Option RV)} {st : List RV} {M : RM} {mc ms : Nat} {Post : RO → RM → Prop} {idx : Nat} {v : Int32} (hw : Cond.constant mi.1.cls idx v ∈ lw_good) (hd : decode mi.2.1 pc = .ok (.ldc idx, 2)) (k : Ev g d mi (pc + 2) ls (.inl (.int v) :: st) M mc ms Post) : Ev g d mi pc ls st M mc ms Post := by
  intro p e R s m args below meth c H locs cells slots lsA TC TS hC hM hS hl h1 h2 h3 h4
  obtain ⟨hx, hb, hml, hown, hr, hlk, hxt, hts, hK, hf, hlo, hnm⟩ := id hC
  exact lv_ldc hx hb hown (hts _ hw) hd (k p e R s m args below meth c H locs cells slots lsA TC TS hC hM hS hl h1 h2 h3 h4)
theorem ev_ldcS {g : GL} {d : Nat} {mi : MI} {pc : Nat} {ls : List (Option RV)} {st : List RV} {M : RM} {mc ms : Nat} {Post : RO → RM → Prop} {idx i : Nat} {tx : String} (hw : (mi.1.cls, idx, tx, i) ∈ rStr) (hd : decode mi.2.1 pc = .ok (.ldc idx, 2)) (k : Ev g d mi (pc + 2) ls (.inr (1, i) :: st) M mc ms Post) : Ev g d mi pc ls st M mc ms Post := by
  intro p e R s m args below meth c H locs cells slots lsA TC TS hC hM hS hl h1 h2 h3 h4
  obtain ⟨hx, hb, hml, hown, hr, hlk, hxt, hts, hK, hf, hlo, hnm⟩ := id hC
  exact va_ldcS hx hb hown (hK.2.2.2.2.1 _ hw) hd (k p e R s m args below meth c H locs cells slots lsA TC TS hC hM hS hl h1 h2 h3 h4)
theorem ev_gets {g : GL} {d : Nat} {mi : MI} {pc : Nat} {ls : List (Option RV)} {st : List RV} {M : RM} {mc ms : Nat} {Post : RO → RM → Prop} {idx : Nat} {C n ds ref : String} {v : RV} (hw : (C, n, ds, v) ∈ rSta) (hlink : Cond.fieldLink mi.1.cls idx ref n ds ∈ lw_good) (hsame : ref = C ∨ Cond.sameField ref C n ds ∈ lw_good) (hd : decode mi.2.1 pc = .ok (.getstatic idx, 3)) (k : Ev g d mi (pc + 3) ls (v :: st) M mc ms Post) : Ev g d mi pc ls st M mc ms Post := by
  intro p e R s m args below meth c H locs cells slots lsA TC TS hC hM hS hl h1 h2 h3 h4
  obtain ⟨hx, hb, hml, hown, hr, hlk, hxt, hts, hK, hf, hlo, hnm⟩ := id hC
  exact va_gets hx hb (hK.2.2.2.2.2.1.1 _ hw) hS hown (hts _ hlink) (fl_same hts hsame) hd (k p e R s m args below meth c H locs cells slots lsA TC TS hC hM hS hl h1 h2 h3 h4)
theorem ev_tabIn {g : GL} {d : Nat} {mi : MI} {pc : Nat} {ls : List (Option RV)} {st : List RV} {M : RM} {mc ms : Nat} {Post : RO → RM → Prop} {dflt lo hi : Int} {offs : Array Int} {len : Nat} {x : Int32} {off : Int} {tgt : Nat} (g1 : ¬ x.toInt < lo) (g2 : ¬ hi < x.toInt) (ho : offs[(x.toInt - lo).toNat]? = some off) (ht : (pc : Int) + off = (tgt : Int)) (hd : decode mi.2.1 pc = .ok (.tableswitch dflt lo hi offs, len)) (k : Ev g d mi tgt ls st M mc ms Post) : Ev g d mi pc ls (.inl (.int x) :: st) M mc ms Post := by
  intro p e R s m args below meth c H locs cells slots lsA TC TS hC hM hS hl h1 h2 h3 h4
  obtain ⟨hx, hb, hml, hown, hr, hlk, hxt, hts, hK, hf, hlo, hnm⟩ := id hC
  exact lv_tableIn hx hb hd g1 g2 ho ht (k p e R s m args below meth c H locs cells slots lsA TC TS hC hM hS hl h1 h2 h3 h4)
theorem ev_tabOut {g : GL} {d : Nat} {mi : MI} {pc : Nat} {ls : List (Option RV)} {st : List RV} {M : RM} {mc ms : Nat} {Post : RO → RM → Prop} {dflt lo hi : Int} {offs : Array Int} {len : Nat} {x : Int32} {tgt : Nat} (g1 : x.toInt < lo ∨ hi < x.toInt) (ht : (pc : Int) + dflt = (tgt : Int)) (hd : decode mi.2.1 pc = .ok (.tableswitch dflt lo hi offs, len)) (k : Ev g d mi tgt ls st M mc ms Post) : Ev g d mi pc ls (.inl (.int x) :: st) M mc ms Post := by
  intro p e R s m args below meth c H locs cells slots lsA TC TS hC hM hS hl h1 h2 h3 h4
  obtain ⟨hx, hb, hml, hown, hr, hlk, hxt, hts, hK, hf, hlo, hnm⟩ := id hC
  exact lv_tableOut hx hb hd g1 ht (k p e R s m args below meth c H locs cells slots lsA TC TS hC hM hS hl h1 h2 h3 h4)
theorem ev_objInit {g : GL} {d : Nat} {mi : MI} {pc : Nat} {ls : List (Option RV)} {st : List RV} {M : RM} {mc ms : Nat} {Post : RO → RM → Prop} {idx : Nat} {r : Nat × Nat} (hst : st.length ≤ 4) (hw : Cond.methodLink mi.1.cls idx objectInit ∈ lw_good) (hw2 : Cond.instanceMethod objectInit ∈ lw_good) (hw3 : Cond.code objectInit ⟨#[0xb1]⟩ 1 none ∈ lw_good) (hd : decode mi.2.1 pc = .ok (.invokespecial idx, 3)) (k : Ev g d mi (pc + 3) ls st M mc ms Post) : Ev g d mi pc ls (.inr r :: st) M mc ms Post := by
  intro p e R s m args below meth c H locs cells slots lsA TC TS hC hM hS hl h1 h2 h3 h4
  obtain ⟨hx, hb, hml, hown, hr, hlk, hxt, hts, hK, hf, hlo, hnm⟩ := id hC
  have h9 := rest_ok (g := g) hst
  rw [List.map_cons, conc_ref]
  exact W.objInit hx hb hown (hts _ hw) (hts _ hw2) (hts _ hw3) rfl (by rw [hml]; exact hl.1) rfl hd (by omega) (by show 2 * 0 + _ + 12 ≤ _; omega) (k p e R s m args below meth c H locs cells slots lsA TC TS hC hM hS hl h1 h2 h3 h4)
def mathW (n : String) (k : Nat) (b : ByteArray) (ds : String) (own : String) (idx : Nat) : Prop := Cond.methodLink own idx ⟨"java/lang/Math", n, ds⟩ ∈ lw_good ∧ Cond.static ⟨"java/lang/Math", n, ds⟩ ∈ lw_good ∧ Cond.initialized "java/lang/Math" ∈ lw_good ∧ Cond.code ⟨"java/lang/Math", n, ds⟩ b k (some .int) ∈ lw_good
theorem ev_mmin {g : GL} {d : Nat} {mi : MI} {pc : Nat} {ls : List (Option RV)} {st : List RV} {M : RM} {mc ms : Nat} {Post : RO → RM → Prop} {idx : Nat} {x y : Int32} (hst : st.length ≤ 4) (hw : Cond.methodLink mi.1.cls idx Lib.Math.min.name ∈ lw_good ∧ Cond.static Lib.Math.min.name ∈ lw_good ∧ Cond.initialized "java/lang/Math" ∈ lw_good ∧ Cond.code Lib.Math.min.name Lib.Math.min.code 2 (some .int) ∈ lw_good) (hd : decode mi.2.1 pc = .ok (.invokestatic idx, 3)) (k : Ev g d mi (pc + 3) ls (.inl (.int (if y < x then y else x)) :: st) M mc ms Post) : Ev g d mi pc ls (.inl (.int y) :: .inl (.int x) :: st) M mc ms Post := by
  intro p e R s m args below meth c H locs cells slots lsA TC TS hC hM hS hl h1 h2 h3 h4
  obtain ⟨hx, hb, hml, hown, hr, hlk, hxt, hts, hK, hf, hlo, hnm⟩ := id hC
  have h9 := rest_ok (g := g) hst
  exact va_mmin hx hb (by rw [hml]; exact hl.1.symm) hown (hts _ hw.1) (hts _ hw.2.1) (hts _ hw.2.2.1) (hts _ hw.2.2.2) (by omega) (by omega) (by omega) (by omega) hd (k p e R s m args below meth c H locs cells slots lsA TC TS hC hM hS hl h1 h2 h3 h4)
theorem ev_mmax {g : GL} {d : Nat} {mi : MI} {pc : Nat} {ls : List (Option RV)} {st : List RV} {M : RM} {mc ms : Nat} {Post : RO → RM → Prop} {idx : Nat} {x y : Int32} (hst : st.length ≤ 4) (hw : Cond.methodLink mi.1.cls idx Lib.Math.max.name ∈ lw_good ∧ Cond.static Lib.Math.max.name ∈ lw_good ∧ Cond.initialized "java/lang/Math" ∈ lw_good ∧ Cond.code Lib.Math.max.name Lib.Math.max.code 2 (some .int) ∈ lw_good) (hd : decode mi.2.1 pc = .ok (.invokestatic idx, 3)) (k : Ev g d mi (pc + 3) ls (.inl (.int (if x < y then y else x)) :: st) M mc ms Post) : Ev g d mi pc ls (.inl (.int y) :: .inl (.int x) :: st) M mc ms Post := by
  intro p e R s m args below meth c H locs cells slots lsA TC TS hC hM hS hl h1 h2 h3 h4
  obtain ⟨hx, hb, hml, hown, hr, hlk, hxt, hts, hK, hf, hlo, hnm⟩ := id hC
  have h9 := rest_ok (g := g) hst
  exact va_mmax hx hb (by rw [hml]; exact hl.1.symm) hown (hts _ hw.1) (hts _ hw.2.1) (hts _ hw.2.2.1) (hts _ hw.2.2.2) (by omega) (by omega) (by omega) (by omega) hd (k p e R s m args below meth c H locs cells slots lsA TC TS hC hM hS hl h1 h2 h3 h4)
theorem ev_mabs {g : GL} {d : Nat} {mi : MI} {pc : Nat} {ls : List (Option RV)} {st : List RV} {M : RM} {mc ms : Nat} {Post : RO → RM → Prop} {idx : Nat} {x : Int32} (hst : st.length ≤ 4) (hw : Cond.methodLink mi.1.cls idx Lib.Math.abs.name ∈ lw_good ∧ Cond.static Lib.Math.abs.name ∈ lw_good ∧ Cond.initialized "java/lang/Math" ∈ lw_good ∧ Cond.code Lib.Math.abs.name Lib.Math.abs.code 1 (some .int) ∈ lw_good) (hd : decode mi.2.1 pc = .ok (.invokestatic idx, 3)) (k : Ev g d mi (pc + 3) ls (.inl (.int (if 0 ≤ x then x else 0 - x)) :: st) M mc ms Post) : Ev g d mi pc ls (.inl (.int x) :: st) M mc ms Post := by
  intro p e R s m args below meth c H locs cells slots lsA TC TS hC hM hS hl h1 h2 h3 h4
  obtain ⟨hx, hb, hml, hown, hr, hlk, hxt, hts, hK, hf, hlo, hnm⟩ := id hC
  have h9 := rest_ok (g := g) hst
  exact va_mabs hx hb (by rw [hml]; exact hl.1.symm) hown (hts _ hw.1) (hts _ hw.2.1) (hts _ hw.2.2.1) (hts _ hw.2.2.2) (by omega) (by omega) (by omega) (by omega) hd (k p e R s m args below meth c H locs cells slots lsA TC TS hC hM hS hl h1 h2 h3 h4)
/-- new E(text), thrown at once -/
def TH (mi : MI) (pc : Nat) (cls : String) : Prop := ∃ (ik is ic : Nat) (names : List String) (text : String) (k : Nat), Bundle.fit cls = true ∧ (∀ n ∈ names, Bundle.fit n = true) ∧ names.length ≤ 6 ∧ Cond.classLink mi.1.cls ik cls ∈ lw_good ∧ Cond.initialized cls ∈ lw_good ∧ (mi.1.cls, is, text, k) ∈ rStr ∧
  (∀ w ∈ vx_atS mi.1.cls ic cls names, w ∈ lw_good ∨ (w ∈ lw_T ∧ isBad w = true)) ∧ (∀ w ∈ Cond.classLink mi.1.cls ik cls :: Cond.initialized cls :: vx_atS mi.1.cls ic cls names, vx_ot w = true) ∧
  decode mi.2.1 pc = .ok (.new ik, 3) ∧ decode mi.2.1 (pc + 3) = .ok (.dup, 1) ∧ decode mi.2.1 (pc + 4) = .ok (.ldc is, 2) ∧ decode mi.2.1 (pc + 6) = .ok (.invokespecial ic, 3) ∧ decode mi.2.1 (pc + 9) = .ok (.athrow, 1)
theorem bad_any {w : Cond} (hb : isBad w = true) {A : Array Value} {U : State} (h : w.before #[] U = true) : w.before A U = true := by
  cases w <;> first
    | (simp [isBad] at hb; done)
    | exact va_tabs rfl rfl h
    | exact h
theorem ev_throw {g : GL} {d : Nat} {mi : MI} {pc : Nat} {ls : List (Option RV)} {st : List RV} {M : RM} {mc ms : Nat} {Post : RO → RM → Prop} {cls : String} (hth : TH mi pc cls) (hh : mi.2.2.2.2 = []) (hst : st.length ≤ 4) (h7 : 7 ≤ d) (hp : Post (.inl cls) M) : Ev g d mi pc ls st M (mc + 1) (ms + 6) Post := by
  intro p e R s m args below meth c H locs cells slots lsA TC TS hC hM hS hl h1 h2 h3 h4
  obtain ⟨hx, hb, hml, hown, hr, hlk, hxt, hts, hK, hf, hlo, hnm⟩ := id hC
  obtain ⟨ik, is, ic, names, text, k, t1, t2, t3, t4, t5, t6, t7, t8, d0, d3, d4, d6, d9⟩ := hth
  have h9 := rest_ok (g := g) hst
  refine vx_throwS hx hb hK.1 hown t1 t2 (hts _ t4) (hts _ t5) (hK.2.2.2.2.1 _ t6) (fun w hw => ?_) t8 hK.2.2.1 hK.2.2.2.1 hS (by rw [hml]; exact hl.1) d0 d3 d4 d6 d9 (fun x hx9 => by rw [hxt, hh] at hx9; cases hx9) (by omega) (by omega) (by omega) (by omega) hlk (fun t hal hz hq => ?_) hS.2.2 (by omega) (by omega)
  · rcases t7 w hw with h | ⟨h, h'⟩
    · exact hts _ h
    · exact bad_any h' (hK.2.2.2.2.2.2.2.2.1 _ h h')
  · refine ⟨⟨M, hp, ⟨Nat.le_trans (Nat.le_of_eq hM.1.symm) hz, fun o cc hc => ?_⟩⟩, Nat.le_trans hS.1 hz, fun q hq1 hq2 => (hq q (Nat.lt_of_lt_of_le hq1 hS.1)).trans (hS.2.1 q hq1 hq2)⟩
    have h8 := hM.2 o cc hc
    exact (h8.kept (hq _ h8.lt)).moved hal
theorem nn9 {z : Int32} (hz : ¬ z < 0) : z.toInt = (z.toNatClampNeg : Int) := by
  have hz0 : (0 : Int) ≤ z.toInt := by
    have := Int32.not_lt.mp hz
    simpa using Int32.le_iff_toInt_le.mp this
  show z.toInt = ((z.toInt.toNat : Nat) : Int)
  omega
theorem ev_copy {g : GL} {d : Nat} {mi : MI} {pc : Nat} {ls : List (Option RV)} {st : List RV} {mc ms : Nat} {Post : RO → RM → Prop} {G : RG} {idx nx o0 o1 ei n0 n1 : Nat} {ty : FieldType} {f0 f1 : Nat → RV} {sp dp n : Int32} (hst : st.length ≤ 4) (he : rTy[ei]? = some ty) (hprim : refKind ty = false) (hw : Cond.methodLink mi.1.cls idx arraycopyName ∈ lw_good ∧ Cond.native arraycopyName ∈ lw_good ∧ Cond.static arraycopyName ∈ lw_good ∧ Cond.initialized "java/lang/System" ∈ lw_good)
    (ha0 : G o0 = some (true, ei, n0, f0)) (ha1 : G o1 = some (true, ei, n1, f1)) (g1 : ¬ sp < 0) (g2 : ¬ dp < 0) (g3 : ¬ n < 0) (g4 : sp.toNatClampNeg + n.toNatClampNeg ≤ n0) (g5 : dp.toNatClampNeg + n.toNatClampNeg ≤ n1) (hfit : ∀ i, i < n.toNatClampNeg → ∃ x, f0 (sp.toNatClampNeg + i) = .inl (.int x) ∧ fits ty (.int x) = true)
    (hd : decode mi.2.1 pc = .ok (.invokestatic idx, 3)) (k : Ev g d mi (pc + 3) ls st (wrG G o1 (true, ei, n1, va_cpy f0 f1 sp.toNatClampNeg dp.toNatClampNeg n.toNatClampNeg), nx) mc ms Post) : Ev g d mi pc ls (.inl (.int n) :: .inl (.int dp) :: .inr (0, o1) :: .inl (.int sp) :: .inr (0, o0) :: st) (G, nx) mc ms Post := by
  intro p e R s m args below meth c H locs cells slots lsA TC TS hC hM hS hl h1 h2 h3 h4
  obtain ⟨hx, hb, hml, hown, hr, hlk, hxt, hts, hK, hf, hlo, hnm⟩ := id hC
  have h9 := rest_ok (g := g) hst
  obtain ⟨ty0, cs, p1, p2, p3, p4, p5, p6, p8, p7⟩ := hM.2 o0 _ ha0
  obtain ⟨ty1, cd, q1, q2, q3, q4, q5, q6, q8, q7⟩ := hM.2 o1 _ ha1
  cases he.symm.trans p1
  cases he.symm.trans q1
  have hloc9 : 2 * 0 + ((st.map (conc g)).map fun v => v.category).sum + (nativeFrameWords "java/lang/System" "arraycopy" 5 + 11) ≤ R.locals := by
    have : nativeFrameWords "java/lang/System" "arraycopy" 5 + 11 ≤ 100 := by decide +kernel
    omega
  have hcs := p8 (Nat.le_add_right _ _)
  have hcd := q8 (Nat.le_add_right _ _)
  intro T hT X
  subst hT
  obtain ⟨hp3, k0, hk0, cm0, hkk0⟩ := id p3
  obtain ⟨hq3, k1, hk1, cm1, hkk1⟩ := id q3
  obtain ⟨vm', X', step⟩ := X.arraycopy hx hown (hts _ hw.1) (hts _ hw.2.1) (hts _ hw.2.2.1) (hts _ hw.2.2.2) (src := g.2.2.2.1 + o0) (dst := g.2.2.2.1 + o1) (cs := cs) (cd := cd) (srcPos := sp) (destPos := dp) (n := n) p2 q2 hp3 hq3 p4 q4 hk0 hk1 hkk0 hkk1 (by simp [hprim]) g1 g2 g3
    (by rw [nn9 g1, nn9 g3]; have := p5.1; omega) (by rw [nn9 g2, nn9 g3]; have := q5.1; omega)
    (fun vm₁ _ i hi => by
      obtain ⟨x, e1, e2⟩ := hfit i hi
      have e : cs.slots.getD (sp.toNatClampNeg + i) .null = .int x := by
        rw [Array.getD_eq_getD_getElem?, p7 _ (by omega), e1]
        rfl
      rw [e]
      exact ⟨e2, trivial⟩)
    (g := F0 m pc lsA (.int n :: .int dp :: .ref (g.2.2.2.1 + o1) :: .int sp :: .ref (g.2.2.2.1 + o0) :: st.map (conc g))) rfl (by rw [hml]; exact hl.1) (rest := st.map (conc g)) rfl (by rw [hb]; exact hd) (by omega) hloc9
  have e1 : copied cs cd sp dp n = arrV cd.cls n1 (fun j => conc g (va_cpy f0 f1 sp.toNatClampNeg dp.toNatClampNeg n.toNatClampNeg j)) := by
    rw [hcs, hcd]
    exact va_copied (conc g) cs.cls cd.cls f0 f1 g4
  rw [e1] at X' step
  have hl9 : g.2.2.2.1 + o1 < T.heap.size := (Array.getElem?_eq_some_iff.mp q2).1
  have hheap : ((T.setVm vm').setCell (g.2.2.2.1 + o1) (arrV cd.cls n1 (fun j => conc g (va_cpy f0 f1 sp.toNatClampNeg dp.toNatClampNeg n.toNatClampNeg j)))).heap = T.heap.setIfInBounds (g.2.2.2.1 + o1) (arrV cd.cls n1 (fun j => conc g (va_cpy f0 f1 sp.toNatClampNeg dp.toNatClampNeg n.toNatClampNeg j))) := rfl
  have oq : ∀ q : Nat, q ≠ g.2.2.2.1 + o1 → (T.heap.setIfInBounds (g.2.2.2.1 + o1) (arrV cd.cls n1 (fun j => conc g (va_cpy f0 f1 sp.toNatClampNeg dp.toNatClampNeg n.toNatClampNeg j))))[q]? = T.heap[q]? := fun q hq => by simp [Array.getElem?_setIfInBounds, Ne.symm hq]
  obtain ⟨t, a1, b1⟩ := k p e R s m args below meth c _ _ cells slots lsA TC TS hC (hM.wr ha1 (by simp) oq ⟨ty, arrV cd.cls n1 (fun j => conc g (va_cpy f0 f1 sp.toNatClampNeg dp.toNatClampNeg n.toNatClampNeg j)), q1, by simp [Array.getElem?_setIfInBounds, hl9], ⟨fun k h => (by cases h), k1, hk1, cm1, hkk1⟩, fun h => (by cases h), szA.of (arrV_size _ _ _), q6, fun _ => rfl, fun j hj => arrV_read _ _ hj⟩) ⟨by simp; exact hS.1, fun q g1 g2 => by
      rw [oq q (fun e => g2 (by rw [e]; exact Nat.le_add_right _ _))]
      exact hS.2.1 q g1 g2, fun q hq => by
      rcases List.mem_append.mp hq with h | h
      · exact hS.2.2 q h
      · obtain ⟨z, -, hz⟩ := List.mem_map.mp h
        rw [← hz]
        exact Nat.le_add_right _ _⟩ hl h1 h2 h3 h4 _ hheap X'
  exact ⟨t, step t a1, b1⟩

/-! NoSuchElementException: its constructor names its parent by another entry of its pool than the kit's law takes; the walk of such a throw, by the library's pieces. And a field is read, final or not. -/
section NSE
variable {p : Program} {l : Launch} {e : Env} {R : Room} {s : State} {m : MethodId} {args : Array Value} {below : List Frame} {meth : Method} {c : Code} {T9 : State} {H : Heap} {locs : List Loc} {cells slots : Nat}
variable {mc ms : Nat} {free : Addr → Prop} {Qc : Array Value → State → Outcome → State → Prop} {XC : String → State → State → Prop} {ls : Array Slot} {rest : List Value}
/-- the words of 'throw new X(text)', where X's constructor hands its text on by entry ix of its pool -/
def xnAt (own : String) (ic : Nat) (X : String) (ix : Nat) (rx : ByteArray) (Y : String) (r : List String) : List Cond :=
  Bundle.throwableAtoms ++ (Bundle.throwableSAtoms ++ (Bundle.passSAtoms X Y ix rx ++ (Bundle.chainSAtoms Y r ++
  [.methodLink own ic (Bundle.initS X), .instantiable X 6, .selects X Bundle.tFill0 Bundle.tFill0, .selects X Bundle.tFill Bundle.tFill,
   .lays X Bundle.tN "cause" "Ljava/lang/Throwable;", .lays X Bundle.tN "stackTrace" Bundle.steD, .lays X Bundle.tN "suppressedExceptions" Bundle.listD, .lays X Bundle.tN "detailMessage" "Ljava/lang/String;",
   .isRef (.static Bundle.tN "UNASSIGNED_STACK" Bundle.steD), .isRef (.static Bundle.tN "SUPPRESSED_SENTINEL" Bundle.listD),
   .fieldLink Bundle.tN 198 Bundle.tN "backtrace" "Ljava/lang/Object;", .lays Bundle.tN Bundle.tN "backtrace" "Ljava/lang/Object;", .lays X Bundle.tN "backtrace" "Ljava/lang/Object;"])))
set_option maxHeartbeats 4000000 in
theorem xn_ctor (S : Stand p l e R s m args below meth c T9 locs cells slots) (hexec : p.tables.exec = Jvm.exec) (htr : e.platform.stackTraces = false) {own X Y : String} {r : List String} {ic ix : Nat} {rx : ByteArray}
    (x0 : decode rx 0 = .ok (.aload_n 0, 1)) (x1 : decode rx 1 = .ok (.aload_n 1, 1)) (x2 : decode rx 2 = .ok (.invokespecial ix, 3)) (x5 : decode rx 5 = .ok (.return_, 1))
    (hown : s.vm.findClass own = some m.cls) (hX : Bundle.fit X = true) (hY : Bundle.fit Y = true) (hr : ∀ n ∈ r, Bundle.fit n = true)
    (h : ∀ a ∈ xnAt own ic X ix rx Y r, a.before args s = true) (hlocs : ∀ x ∈ locs, ∀ cell, s.heap[x.base]? = some cell → cell.vm.isStatics = false)
    {a : Addr} {cX : ClassId} {kX : Class} (hf : s.vm.findClass X = some cX) (hk0 : s.vm.classes[cX]? = some kX) (hcell : T9.heap[a]? = some (freshCell cX kX)) (hnew : s.heap.size ≤ a) {msg : Value} (hmsg : msg.isRef = true)
    {g : JFrame} (hg : g.method = m) (hsize : g.locals.size = c.maxLocals) (hlocked : g.locked = none) (hentered : g.entered = []) {rest : List Value} (hst : g.stack = msg :: .ref a :: .ref a :: rest)
    (d0 : decode c.code g.pc = .ok (.invokespecial ic, 3)) (d3 : decode c.code (g.pc + 3) = .ok (.athrow, 1)) (hout : ∀ x ∈ c.exceptionTable.toList, covers x (g.pc + 3) = false)
    (hRf : r.length + 4 < R.frames) (hRl : 2 * g.monitorRoom + ((Value.ref a :: rest).map fun v => v.category).sum + (13 * (r.length + 2) + 42) ≤ R.locals) (hlocks : meth.locks = false) :
    ∃ U : State, Steps p.tables e below (T9.setTop g) U ∧ U.status = .running ∧ Ended U below (.threw a) ∧ s.WarmedH U.vm ∧ s.sameButNew ({ U with vm := s.vm } : State) locs cells slots ∧ ∃ ce, U.heap[a]? = some ce ∧ s.vm.findClass X = some ce.cls ∧ ce.vm = .none := by
  have pf : e.platform.frameOwnsMonitors = true ∧ e.platform.finalization = false ∧ e.platform.magicAccessors = ({} : Platform).magicAccessors := by rw [S.admits.platform]; exact ⟨rfl, rfl, rfl⟩
  obtain ⟨howns, hfin, hpl⟩ := pf
  have q : ∀ x, x ∈ xnAt own ic X ix rx Y r → x.holds args s none s [] = true := fun x hx => h x hx
  obtain ⟨T, Z0, L, -, B⟩ := ThrowableC.of_atoms (args := args) howns hfin hpl (fun x hx => h x (List.mem_append_left _ hx))
  obtain ⟨Z, M, LZ, LM, hZ⟩ := Init0T.ofS_atoms (args := args) hpl L B (fun x hx => h x (List.mem_append_right _ (List.mem_append_left _ hx)))
  obtain ⟨P1, L1, hP1, hs1⟩ := PassC.ofS_atoms (args := args) (s := s) hpl (X := X) (Y := Y) (Bundle.fit_spec hX).1 (Bundle.fit_spec hY).2 x0 x1 x2 x5 (fun x hx => h x (List.mem_append_right _ (List.mem_append_right _ (List.mem_append_left _ hx))))
  obtain ⟨P2, Ps, hlen, L2, hL, hP2, hl2, hl⟩ := Bundle.chainS (args := args) hpl hZ r Y hY hr (fun x hx => h x (List.mem_append_right _ (List.mem_append_right _ (List.mem_append_right _ (List.mem_append_left _ hx)))))
  have z : ∀ x ∈ [Cond.methodLink own ic (Bundle.initS X), .instantiable X 6, .selects X Bundle.tFill0 Bundle.tFill0, .selects X Bundle.tFill Bundle.tFill, .lays X Bundle.tN "cause" "Ljava/lang/Throwable;", .lays X Bundle.tN "stackTrace" Bundle.steD, .lays X Bundle.tN "suppressedExceptions" Bundle.listD, .lays X Bundle.tN "detailMessage" "Ljava/lang/String;", .isRef (.static Bundle.tN "UNASSIGNED_STACK" Bundle.steD), .isRef (.static Bundle.tN "SUPPRESSED_SENTINEL" Bundle.listD), .fieldLink Bundle.tN 198 Bundle.tN "backtrace" "Ljava/lang/Object;", .lays Bundle.tN Bundle.tN "backtrace" "Ljava/lang/Object;", .lays X Bundle.tN "backtrace" "Ljava/lang/Object;"], x.holds args s none s [] = true := fun x hx => q x (List.mem_append_right _ (List.mem_append_right _ (List.mem_append_right _ (List.mem_append_right _ hx))))
  obtain ⟨z1, z⟩ := List.forall_mem_cons.mp z
  obtain ⟨z2, z⟩ := List.forall_mem_cons.mp z
  obtain ⟨z3, z⟩ := List.forall_mem_cons.mp z
  obtain ⟨z4, z⟩ := List.forall_mem_cons.mp z
  obtain ⟨z5, z⟩ := List.forall_mem_cons.mp z
  obtain ⟨z6, z⟩ := List.forall_mem_cons.mp z
  obtain ⟨z7, z⟩ := List.forall_mem_cons.mp z
  obtain ⟨z8, z⟩ := List.forall_mem_cons.mp z
  obtain ⟨z9, z⟩ := List.forall_mem_cons.mp z
  obtain ⟨z10, z⟩ := List.forall_mem_cons.mp z
  obtain ⟨z11, z⟩ := List.forall_mem_cons.mp z
  obtain ⟨z12, z⟩ := List.forall_mem_cons.mp z
  obtain ⟨z13, z⟩ := List.forall_mem_cons.mp z
  have hc : s.vm.findClass X = some P1.m.cls := findClass_of_methodNamed hP1
  cases Option.some.inj (hf.symm.trans hc)
  obtain ⟨c1, k1, hc1, hk, hord, -, -, hn6⟩ := Cond.instantiable_spec z2
  cases Option.some.inj (hc1.symm.trans hc)
  cases Option.some.inj (hk0.symm.trans hk)
  have sel0 : selectMethod e.platform s.vm P1.m.cls T.fill0 = .method T.fill0 := by
    obtain ⟨c2, r2, m2, q1, q2, q3, q4, -⟩ := Cond.selects_spec z3
    cases Option.some.inj (q1.symm.trans hc)
    cases Option.some.inj (q2.symm.trans (State.methodFound?_of_named B.fill0 (by decide)))
    cases Option.some.inj (q3.symm.trans B.fill0)
    rw [Launch.admits_selectMethod S.admits]; exact q4
  have sel1 : selectMethod e.platform s.vm P1.m.cls T.fill = .method T.fill := by
    obtain ⟨c2, r2, m2, q1, q2, q3, q4, -⟩ := Cond.selects_spec z4
    cases Option.some.inj (q1.symm.trans hc)
    cases Option.some.inj (q2.symm.trans (State.methodFound?_of_named B.fill (by decide)))
    cases Option.some.inj (q3.symm.trans B.fill)
    rw [Launch.admits_selectMethod S.admits]; exact q4
  obtain ⟨cs, hcs, hiss⟩ := B.statics
  obtain ⟨u0, hu0⟩ := Cond.staticRefV B.unassigned L.unassignedStatic L.statics hcs hiss z9
  obtain ⟨sen, hsen⟩ := Cond.staticRefV B.sentinel L.sentinelStatic L.statics hcs hiss z10
  obtain ⟨ci, ib, fB, e1, e2, e3, e4, -, e5, e6, e7⟩ := Cond.ownField (t := .object "java/lang/Object") B.found L.cls (by decide +kernel) z11 z12 e.platform hpl
  obtain ⟨cS, hcS, heS, -, hkeep⟩ := S.same.2.2.2.2.2 T.aS cs hcs
  have nin : ∀ i, (⟨T.aS, i⟩ : Loc) ∉ locs := fun i hm => by have := hlocs _ hm cs hcs; rw [hiss] at this; cases this
  have kn : cS.vm ≠ .unknown := by
    rw [heS]; intro hu
    rw [show cs.vm = .unknown from hu] at hiss
    cases hiss
  have ne9 : T.aS ≠ a := Nat.ne_of_lt (Nat.lt_of_lt_of_le (Array.getElem?_eq_some_iff.mp hcs).1 hnew)
  obtain ⟨iM, hfM⟩ := B.msg
  obtain ⟨tyC, dC, hdC, nC⟩ := Cond.laysAt hc hk B.cause z5
  obtain ⟨tyS, dS, hdS, nS⟩ := Cond.laysAt hc hk B.stack z6
  obtain ⟨tyP, dP, hdP, nP⟩ := Cond.laysAt hc hk B.supp z7
  obtain ⟨tyM, dM, hdM, nM⟩ := Cond.laysAt hc hk hfM z8
  obtain ⟨tyB, dB, hdB, nB⟩ := Cond.laysAt hc hk e7 z13
  have bC := Cond.laysApart hdB hdC nB nC (by rw [e5, B.causeName]; decide)
  have bS := Cond.laysApart hdB hdS nB nS (by rw [e5, B.stackName]; decide)
  have bP := Cond.laysApart hdB hdP nB nP (by rw [e5, B.suppName]; decide)
  have hskip : SkipFacts T e.platform s (fun u => u) u0 ((preparedCellV T.toThrowableT (freshCell P1.m.cls kX) a u0 sen).withEntry T9.cur) :=
    ⟨{ ci198 := ci, i198 := ib, fBack := fB }, ⟨e1, e2, e3, e4⟩, by
      have := fresh_default (c := P1.m.cls) tyB
      rw [e6] at this
      simpa [preparedCellV, Cell.setSlot, Cell.withEntry, Array.getElem?_setIfInBounds, bC, bS, bP, bC.symm, bS.symm, bP.symm, defaultValue] using this, fun _ _ => rfl⟩
  have wI : (Cond.instanceMethod (Bundle.initS X)).before args s = true := h _ (List.mem_append_right _ (List.mem_append_right _ (List.mem_append_left _ (by simp [Bundle.passSAtoms]))))
  have wC : (Cond.code (Bundle.initS X) rx 2 none).before args s = true := h _ (List.mem_append_right _ (List.mem_append_right _ (List.mem_append_left _ (by simp [Bundle.passSAtoms]))))
  obtain ⟨tm, methC, cdC, kC, vm1, hnC, -, -, -, -, -, -, -, hW1, st1⟩ := Steps.initColdS (tb := p.tables) (e := e) (below := below) (s := s) (U := T9) S.here hexec S.warmed hpl hown (t := Bundle.initS X) rfl rfl (Bundle.fit_spec hX).2
    z1 wI (bytes := rx) (maxL := 2) wC (f := g) hg (a := a) (msg := msg) (rest := .ref a :: rest) hst d0
  cases Option.some.inj (hnC.symm.trans hP1)
  have S1 := S.noted hW1
  have hlink : P1.sup = firstOf (Z.m T.toThrowableT) ((P2 :: Ps).map (·.toPassT)) := Option.some.inj (hs1.symm.trans hP2)
  obtain ⟨vm2, S2, st2⟩ := S1.ctorMessageOffV hexec (g := { g with stack := .ref a :: rest }) hg hsize T L Z LZ M LM (P1 :: P2 :: Ps)
    (fun P hP => by
      rcases List.mem_cons.mp hP with rfl | hP
      · exact L1
      · rcases List.mem_cons.mp hP with rfl | hP
        · exact L2
        · exact hL P hP) ⟨hlink, hl2, hl⟩ (u0 := u0) (sen := sen) (self := a) hmsg (cell := freshCell P1.m.cls kX) (cellS := cS)
    hcell (fun _ => by simp) (by simp) rfl rfl sel0 sel1 hcS ne9 kn (by rw [hkeep _ (nin _)]; exact hu0) (by rw [hkeep _ (nin _)]; exact hsen)
    (Takes.of_laid hk hord tyC (by rw [B.causeType]; rfl)) (Takes.of_laid hk hord tyS (by rw [B.stackType]; exact fits_refV_array _ u0)) (Takes.of_laid hk hord tyP (by rw [B.suppType]; exact fits_refV_object _ sen))
    (Takes.of_laid hk hord tyM (by rw [B.msgType]; exact fits_refV_object _ ⟨msg, hmsg⟩)) B.objLocals hskip htr [] d0
    (by simp only [List.length_cons, hlen]; omega) (by simp only [List.length_cons, hlen]; exact hRl)
  obtain ⟨hwalk, hrun, hend, hWU, hsm⟩ := S2.athrowLeaves hexec (g := { g with stack := .ref a :: rest, pc := g.pc + 3 }) hg hlocked hentered hout (a := a) (rest := rest) rfl d3
  have hlt : a < ((T9.setVm vm1).setVm vm2).heap.size := (Array.getElem?_eq_some_iff.mp hcell).1
  have hU := heapAt_setCell_self (s := (T9.setVm vm1).setVm vm2) (plainBareV T.toThrowableT (freshCell P1.m.cls kX) a u0 sen msg) hlt
  refine ⟨_, st1 _ (fun acts => ?_), hrun, hend, hWU, hsm.weaken (fun y hy hlt' => ?_) (Nat.le_refl _) (Nat.le_refl _), _, hU, hc, rfl⟩
  · rw [doInvoke_state]
    exact st2 _ hwalk
  · rcases List.mem_append.mp hy with h1 | h1
    · exact h1
    · exfalso
      have hb : y.base = a := by
        simp only [List.mem_cons, List.not_mem_nil, or_false] at h1
        rcases h1 with rfl | rfl | rfl | rfl | rfl <;> rfl
      rw [hb] at hlt'
      exact Nat.not_lt.mpr hnew hlt'
/-- the throw as a whole; w: whether the text's entry is a wide one -/
theorem xn_throw {cc : ByteArray} {pc : Nat} (w : Bool) (hexec : p.tables.exec = Jvm.exec) (hb : c.code = cc) (hl : l.stackTraces = false) {own X Y text : String} {r : List String} {ik is ic ix sa : Nat} {rx : ByteArray} {A : Nat → Prop}
    (x0 : decode rx 0 = .ok (.aload_n 0, 1)) (x1 : decode rx 1 = .ok (.aload_n 1, 1)) (x2 : decode rx 2 = .ok (.invokespecial ix, 3)) (x5 : decode rx 5 = .ok (.return_, 1))
    (hown : s.vm.findClass own = some m.cls) (hX : Bundle.fit X = true) (hY : Bundle.fit Y = true) (hr : ∀ n ∈ r, Bundle.fit n = true)
    (hk : (Cond.classLink own ik X).before args s = true) (hini : (Cond.initialized X).before args s = true) (hstr : vk_R own is text sa s) (hat : ∀ w ∈ (xnAt own ic X ix rx Y r).filter vx_no, w.before args s = true)
    (hgood : ∀ w ∈ Cond.classLink own ik X :: Cond.initialized X :: (xnAt own ic X ix rx Y r).filter vx_no, vx_ot w = true)
    (hU : vx_Zq Bundle.tN "UNASSIGNED_STACK" Bundle.steD A s s.heap) (hN : vx_Zq Bundle.tN "SUPPRESSED_SENTINEL" Bundle.listD A s s.heap) (hS : va_S A s.heap H locs) (hsize : ls.size = c.maxLocals)
    (d0 : decode cc pc = .ok (.new ik, 3)) (d3 : decode cc (pc + 3) = .ok (.dup, 1)) (d4 : decode cc (pc + 4) = .ok (if w then (.ldc_w is, 3) else (.ldc is, 2))) (d6 : decode cc (pc + (if w then 7 else 6)) = .ok (.invokespecial ic, 3)) (d9 : decode cc (pc + (if w then 7 else 6) + 3) = .ok (.athrow, 1))
    (hout : ∀ x ∈ c.exceptionTable.toList, covers x (pc + (if w then 7 else 6) + 3) = false)
    (hRf : r.length + 4 < R.frames) (hRl : (rest.map fun v => v.category).sum + (13 * (r.length + 2) + 43) ≤ R.locals) (hRc : cells + 1 ≤ R.cells) (hRs : slots + 6 ≤ R.slots) (hlocks : meth.locks = false)
    (hx : ∀ t : State, s.vm.Alike t.vm → H.size ≤ t.heap.size → (∀ q : Nat, q < H.size → t.heap[q]? = H[q]?) → XC X s t)
    (hf : ∀ z ∈ locs, free z.base) (hc : cells + 1 ≤ mc) (hs : slots + 6 ≤ ms) :
    W p l e R s m args below meth c H locs cells slots (vx_MQ below Qc XC args s mc ms free) (F0 m pc ls rest) := by
  intro T hT S
  have htr : e.platform.stackTraces = false := (show e.platform.stackTraces = l.stackTraces by rw [S.admits.platform]).trans hl
  have V := vx_rebase S (R' := { frames := R.frames, locals := R.locals, cells := 1, slots := 6 }) (Nat.le_refl _) (Nat.le_refl _) hRc hRs
  obtain ⟨s', hA⟩ : ∃ z, z = (T.setVm s.vm).setFrames (.invoking m args :: below) := ⟨_, rfl⟩
  rw [← hA] at V
  have hvm : s'.vm = s.vm := by rw [hA]; rfl
  have hhp : s'.heap = H := by rw [hA]; exact hT
  have hW0 : s.WarmedH s'.vm := by rw [hvm]; exact State.WarmedH.refl s
  have mv : ∀ w ∈ Cond.classLink own ik X :: Cond.initialized X :: (xnAt own ic X ix rx Y r).filter vx_no, w.before args s = true → w.before args s' = true := fun w hw h => vx_ot_at hW0 hvm.symm (hgood w hw) h
  have hU' : vx_Zq Bundle.tN "UNASSIGNED_STACK" Bundle.steD A s' s'.heap := by rw [hhp]; exact vx_Zq.moved hW0.alike (hU.kept hS.2.1)
  have hN' : vx_Zq Bundle.tN "SUPPRESSED_SENTINEL" Bundle.listD A s' s'.heap := by rw [hhp]; exact vx_Zq.moved hW0.alike (hN.kept hS.2.1)
  have h : ∀ w ∈ xnAt own ic X ix rx Y r, w.before args s' = true := vx_own (fun w hw => mv w (List.mem_cons_of_mem _ (List.mem_cons_of_mem _ hw)) (hat w hw)) (vx_isRefq hU'.1) (vx_isRefq hN'.1) hU'.2.word hN'.2.word
  have hown' : s'.vm.findClass own = some m.cls := by rw [hvm]; exact hown
  have hins : (Cond.instantiable X 6).before args s' = true := h _ (by simp [xnAt])
  obtain ⟨vm1, cX, kX, hfX, hkX, -, -, S1, st1⟩ := V.newCold hexec (own := own) (C := X) (index := ik) (n := 6) hown' (mv _ List.mem_cons_self hk) hins (mv _ (List.mem_cons_of_mem _ List.mem_cons_self) hini)
    (g := F0 m pc ls rest) rfl (by rw [hb]; exact d0) (Nat.le_refl _) (Nat.le_refl _)
  generalize hT1 : (T.setVm vm1).pushCell { cls := cX, slots := kX.instanceTypes.map defaultValue, vm := .none } = T1 at S1 st1
  have hcat : (Value.ref T.heap.size).category = 1 := rfl
  have hcellA : T1.heap[T.heap.size]? = some (freshCell cX kX) := by rw [← hT1]; exact State.heap_pushCell_size _ _
  have d3' : decode c.code (pc + 3) = .ok (.dup, 1) := by rw [hb]; exact d3
  have hstr' : vk_R own is text sa s' := vk_R.warm hW0 hstr
  obtain ⟨U, hsteps, hrun, hend, hW, hsame, ce, hce, hcl9, hcv⟩ := xn_ctor S1 hexec htr (own := own) (X := X) (Y := Y) (r := r) (ic := ic) x0 x1 x2 x5 hown' hX hY hr h (fun x hx => nomatch hx) hfX hkX hcellA (by rw [hhp, hT]; exact Nat.le_refl _) (msg := .ref sa) rfl
    (g := { method := m, pc := pc + (if w then 7 else 6), locals := ls, stack := .ref sa :: .ref T.heap.size :: .ref T.heap.size :: rest, locked := none }) rfl hsize rfl rfl (rest := rest) rfl
    (by rw [hb]; exact d6) (by rw [hb]; exact d9) hout hRf (by simp only [List.map_cons, List.sum_cons, hcat]; omega) hlocks
  obtain ⟨f1, f2⟩ := vx_frame hsame
  rw [hhp] at f1 f2
  have hWs : s.WarmedH U.vm := State.WarmedH.trans hW0 hW
  have hcl : s.vm.findClass X = some ce.cls := by rw [hvm] at hcl9; exact hcl9
  have hall : s.sameButNew ({ U with vm := s.vm } : State) locs mc ms := by
    subst hA
    obtain ⟨e1, e2⟩ := hsame
    rw [State.setFrames_setFrames] at e1
    have h2 : (T.setVm s.vm).sameButNew ({ U with vm := s.vm } : State) [] (0 + 1) (0 + 6) := ⟨e1, e2⟩
    have h3 := S.same.trans h2
    rw [List.append_nil] at h3
    exact h3.mono hc hs
  refine ⟨U, ?_, .threw T.heap.size, hrun, hend, Or.inr ⟨T.heap.size, rfl, X, ce, locs, hx U hWs.alike f1 (fun q hq => f2 q hq (fun z hz => nomatch hz)), hce, hcv, hcl, hWs, hall, hf⟩⟩
  refine st1 _ ?_
  show Steps p.tables e below (T1.setTop { method := m, pc := pc + 3, locals := ls, stack := .ref T.heap.size :: rest, locked := none }) _
  jvm_step S1.here [S1.here.top, hexec, d3', Value.category]
  cases w with
  | false =>
    exact S1.ldcString hexec (own := own) (text := text) (index := is) (a := sa) hown' hstr'.1 hstr'.2
      (g := { method := m, pc := pc + 4, locals := ls, stack := .ref T.heap.size :: .ref T.heap.size :: rest, locked := none }) rfl (by rw [hb]; exact d4) _ hsteps
  | true =>
    exact S1.ldcStringW hexec (own := own) (text := text) (index := is) (a := sa) hown' hstr'.1 hstr'.2
      (g := { method := m, pc := pc + 4, locals := ls, stack := .ref T.heap.size :: .ref T.heap.size :: rest, locked := none }) rfl (by rw [hb]; exact d4) _ hsteps
end NSE
def THN (mi : MI) (pc : Nat) (w : Bool) (X : String) : Prop := ∃ (ik is ic ix : Nat) (rx : ByteArray) (Y : String) (r : List String) (text : String) (k : Nat), (decode rx 0 = .ok (.aload_n 0, 1) ∧ decode rx 1 = .ok (.aload_n 1, 1) ∧ decode rx 2 = .ok (.invokespecial ix, 3) ∧ decode rx 5 = .ok (.return_, 1)) ∧ Bundle.fit X = true ∧ Bundle.fit Y = true ∧ (∀ n ∈ r, Bundle.fit n = true) ∧ r.length ≤ 4 ∧
  Cond.classLink mi.1.cls ik X ∈ lw_good ∧ Cond.initialized X ∈ lw_good ∧ (mi.1.cls, is, text, k) ∈ rStr ∧ (∀ w ∈ (xnAt mi.1.cls ic X ix rx Y r).filter vx_no, w ∈ lw_good ∨ (w ∈ lw_T ∧ isBad w = true)) ∧ (∀ w ∈ Cond.classLink mi.1.cls ik X :: Cond.initialized X :: (xnAt mi.1.cls ic X ix rx Y r).filter vx_no, vx_ot w = true) ∧
  decode mi.2.1 pc = .ok (.new ik, 3) ∧ decode mi.2.1 (pc + 3) = .ok (.dup, 1) ∧ decode mi.2.1 (pc + 4) = .ok (if w then (.ldc_w is, 3) else (.ldc is, 2)) ∧ decode mi.2.1 (pc + (if w then 7 else 6)) = .ok (.invokespecial ic, 3) ∧ decode mi.2.1 (pc + (if w then 7 else 6) + 3) = .ok (.athrow, 1)
theorem ev_throwN {g : GL} {d : Nat} {mi : MI} {pc : Nat} {ls : List (Option RV)} {st : List RV} {M : RM} {mc ms : Nat} {Post : RO → RM → Prop} {w : Bool} {cls : String} (hth : THN mi pc w cls) (hh : mi.2.2.2.2 = []) (hst : st.length ≤ 4) (hp : Post (.inl cls) M) : Ev g d mi pc ls st M (mc + 1) (ms + 6) Post := by
  intro p e R s m args below meth c H locs cells slots lsA TC TS hC hM hS hl h1 h2 h3 h4
  obtain ⟨hx, hb, hml, hown, hr, hlk, hxt, hts, hK, hf, hlo, hnm⟩ := id hC
  obtain ⟨ik, is, ic, ix, rx, Y, r, text, k, ⟨x0, x1, x2, x5⟩, t1, t1', t2, t3, t4, t5, t6, t7, t8, d0, d3, d4, d6, d9⟩ := hth
  have h9 := rest_ok (g := g) hst
  refine xn_throw w hx hb hK.1 x0 x1 x2 x5 hown t1 t1' t2 (hts _ t4) (hts _ t5) (hK.2.2.2.2.1 _ t6) (fun w hw => ?_) t8 hK.2.2.1 hK.2.2.2.1 hS (by rw [hml]; exact hl.1) d0 d3 d4 d6 d9 (fun x hx9 => by rw [hxt, hh] at hx9; cases hx9) (by omega) (by omega) (by omega) (by omega) hlk (fun t hal hz hq => ?_) hS.2.2 (by omega) (by omega)
  · rcases t7 w hw with h | ⟨h, h'⟩
    · exact hts _ h
    · exact bad_any h' (hK.2.2.2.2.2.2.2.2.1 _ h h')
  · refine ⟨⟨M, hp, ⟨Nat.le_trans (Nat.le_of_eq hM.1.symm) hz, fun o cc hc => ?_⟩⟩, Nat.le_trans hS.1 hz, fun q hq1 hq2 => (hq q (Nat.lt_of_lt_of_le hq1 hS.1)).trans (hS.2.1 q hq1 hq2)⟩
    have h8 := hM.2 o cc hc
    exact (h8.kept (hq _ h8.lt)).moved hal
/-- what an entry of a class's pool says of a field that is read -/
def FLg (own : String) (idx ci k : Nat) : Prop :=
  ∃ (C : String) (T : u_T) (N : Nat) (ty : Nat → FieldType) (ref : String), CO ci C T N ty ∧ k < N ∧ Cond.fieldLink own idx ref (T k).2.1 (T k).2.2.1 ∈ lw_good ∧ (ref = (T k).1 ∨ Cond.sameField ref (T k).1 (T k).2.1 (T k).2.2.1 ∈ lw_good)
theorem ev_getg {g : GL} {d : Nat} {mi : MI} {pc : Nat} {ls : List (Option RV)} {st : List RV} {M : RM} {mc ms : Nat} {Post : RO → RM → Prop} {ci kf idx n : Nat} {r : Nat × Nat} {f : Nat → RV} (fl : FLg mi.1.cls idx ci kf) (hr0 : rdM g M r = some (false, ci, n, f)) (hd : decode mi.2.1 pc = .ok (.getfield idx, 3)) (k : Ev g d mi (pc + 3) ls (f kf :: st) M mc ms Post) : Ev g d mi pc ls (.inr r :: st) M mc ms Post := by
  intro p e R s m args below meth c H locs cells slots lsA TC TS hC hM hS hl h1 h2 h3 h4
  obtain ⟨hx, hb, hml, hown, hr, hlk, hxt, hts, hK, hf, hlo, hnm⟩ := id hC
  obtain ⟨C, T, N, ty, ref, ⟨co, hin, hty, hnmx⟩, hk, hlink, hsame⟩ := fl
  obtain ⟨r9, cell, q1, q2, q3, q4, q5, q6, q7⟩ := cell_of hM hS hK hr0
  cases co.symm.trans q1
  obtain ⟨hSl, hfc, kC, hkC, hkind⟩ := hK.2.1.1 ci _ co
  obtain ⟨cf, kf9, fi, fd, hi, hsl⟩ := hSl kf hk
  rw [List.map_cons, conc_ref]
  refine W.getf hx hb hown (hts _ hlink) (fl_same hts hsame _ hi) (u_facts hfc hkC (u_lays hts hin hk) hi).1 q2 q4 (v := conc g (f kf)) ?_ rfl rfl hd (k p e R s m args below meth c H locs cells slots lsA TC TS hC hM hS hl h1 h2 h3 h4)
  rw [hsl]
  exact q7 kf hk
theorem cv_get9 {g : GL} {d : Nat} {mi : MI} {pc : Nat} {ls : List (Option RV)} {st : List RV} {mc ms : Nat} {Post : RO → RM → Prop} {V : Nat → Nat → Prop} {lo hi nx : Nat} {μ : Mem} {F G : RG} {K j kf idx : Nat} (v : RV) (hG : LM V lo hi μ F G) (hv : V K j) (fl : FLg mi.1.cls idx (ixK K) kf) (hA : isA K = false) (hf : fld K j kf (μ K j kf) = v) (hd : decode mi.2.1 pc = .ok (.getfield idx, 3)) (k : Ev g d mi (pc + 3) ls (v :: st) (G, nx) mc ms Post) : Ev g d mi pc ls (.inr (0, off K j) :: st) (G, nx) mc ms Post := by
  have h1 := hG.1 K j hv
  unfold cel at h1
  rw [hA] at h1
  subst hf
  exact ev_getg (M := (G, nx)) fl h1 hd k

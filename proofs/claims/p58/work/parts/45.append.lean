/-! Strings laid into a builder; a float's bits. -/
/-- a String at r with the text l -/
def SR (g : GL) (M : RM) (r v : Nat × Nat) (l : List Nat) : Prop := ∃ ci n f bf, (ci = 0 ∨ ci = 14) ∧ rdM g M r = some (false, ci, n, f) ∧ f 0 = .inr v ∧ f 1 = .inl (.int 0) ∧ rdM g M v = some (true, 2, l.length, bf) ∧ (∀ i, i < l.length → bf i = .inl (.int (nI (l.getD i 0)))) ∧ (∀ i, i < l.length → l.getD i 0 < 128) ∧ (r.1 = 0 → r.2 < M.2) ∧ (v.1 = 0 → v.2 < M.2)
theorem SR.keep {g : GL} {G G' : RG} {nx nx' : Nat} {r v : Nat × Nat} {l : List Nat} (h : SR g (G, nx) r v l) (hn : nx ≤ nx') (hq : ∀ q, q < nx → r = (0, q) ∨ v = (0, q) → G' q = G q) : SR g (G', nx') r v l := by
  obtain ⟨ci, n, f, bf, h1, h2, h3, h4, h5, h6, h7, h8, h9⟩ := h
  refine ⟨ci, n, f, bf, h1, ?_, h3, h4, ?_, h6, h7, fun z => Nat.lt_of_lt_of_le (h8 z) hn, fun z => Nat.lt_of_lt_of_le (h9 z) hn⟩
  · obtain ⟨a, o⟩ := r
    cases a with
    | zero => exact (hq o (h8 rfl) (Or.inl rfl)).trans h2
    | succ a => exact h2
  · obtain ⟨a, o⟩ := v
    cases a with
    | zero => exact (hq o (h9 rfl) (Or.inr rfl)).trans h5
    | succ a => exact h5
/-- a String constant -/
theorem SR.of {g : GL} {M : RM} {w : Nat} {l : List Nat} (hS : SG g) (hw : w < 28) (h : sTx w = l.map nI) (h2 : ∀ i, i < l.length → l.getD i 0 < 128) : SR g M (1, w) (1, 40 + w) l := by
  obtain ⟨h3, h4⟩ := hS w hw
  have e : (sTx w).length = l.length := by rw [h, List.length_map]
  refine ⟨14, 0, sObj w, _, Or.inr rfl, h3, rfl, rfl, by rw [← e]; exact h4, fun i hi => ?_, h2, fun z => (Nat.one_ne_zero z).elim, fun z => (Nat.one_ne_zero z).elim⟩
  show Sum.inl (Value.int ((sTx w).getD i 0)) = _
  rw [h, List.getD_eq_getElem?_getD, List.getElem?_map, List.getD_eq_getElem?_getD, List.getElem?_eq_getElem hi]
  rfl
theorem SR.ofSTo {g : GL} {G : RG} {s v nx : Nat} {l : List Nat} {tx : Nat → Int32} (h : STo G s v l.length tx) (ht : ∀ i, i < l.length → tx i = nI (l.getD i 0)) (h2 : ∀ i, i < l.length → l.getD i 0 < 128) (hs : s < nx) (hv : v < nx) : SR g (G, nx) (0, s) (0, v) l := by
  obtain ⟨n, f, bf, e1, e2, e3, e4, e5⟩ := h
  exact ⟨0, n, f, bf, Or.inl rfl, e1, e2, e3, e4, fun i hi => by rw [e5 i hi, ht i hi], h2, fun _ => hs, fun _ => hv⟩
theorem ev_ifnn {g : GL} {d : Nat} {mi : MI} {pc : Nat} {ls : List (Option RV)} {st : List RV} {M : RM} {mc ms : Nat} {Post : RO → RM → Prop} {r : Nat × Nat} {off : Int} {tgt : Nat} (ht : (pc : Int) + off = (tgt : Int)) (hd : decode mi.2.1 pc = .ok (.ifnonnull off, 3)) (k : Ev g d mi tgt ls st M mc ms Post) : Ev g d mi pc ls (.inr r :: st) M mc ms Post := by
  intro p e R s m args below meth c H locs cells slots lsA TC TS hC hM hS hl h1 h2 h3 h4
  obtain ⟨hx, hb, hml, hown, hr, hlk, hxt, hts, hK, hf, hlo, hnm⟩ := id hC
  rw [List.map_cons, conc_ref]
  exact lv_ifnonnull hx hb hd ht (k p e R s m args below meth c H locs cells slots lsA TC TS hC hM hS hl h1 h2 h3 h4)
theorem ev_fcmp {g : GL} {d : Nat} {mi : MI} {pc : Nat} {ls : List (Option RV)} {st : List RV} {M : RM} {mc ms : Nat} {Post : RO → RM → Prop} {x y : UInt32} {op : CmpOp} (hd : decode mi.2.1 pc = .ok (.fcmp op, 1)) (k : Ev g d mi (pc + 1) ls (.inl (.int (Op.cmpValue (FP.fcmp x y) op)) :: st) M mc ms Post) : Ev g d mi pc ls (.inl (.float y) :: .inl (.float x) :: st) M mc ms Post := by
  intro p e R s m args below meth c H locs cells slots lsA TC TS hC hM hS hl h1 h2 h3 h4
  obtain ⟨hx, hb, hml, hown, hr, hlk, hxt, hts, hK, hf, hlo, hnm⟩ := id hC
  exact lv_fcmp hx hb hd (k p e R s m args below meth c H locs cells slots lsA TC TS hC hM hS hl h1 h2 h3 h4)
theorem ev_f2raw {g : GL} {d : Nat} {mi : MI} {pc : Nat} {ls : List (Option RV)} {st : List RV} {M : RM} {mc ms : Nat} {Post : RO → RM → Prop} {idx : Nat} {x : UInt32} (hst : st.length ≤ 4) (hw : Cond.methodLink mi.1.cls idx ⟨"java/lang/Float", "floatToRawIntBits", "(F)I"⟩ ∈ lw_good ∧ Cond.native ⟨"java/lang/Float", "floatToRawIntBits", "(F)I"⟩ ∈ lw_good ∧ Cond.static ⟨"java/lang/Float", "floatToRawIntBits", "(F)I"⟩ ∈ lw_good ∧ Cond.initialized "java/lang/Float" ∈ lw_good) (hd : decode mi.2.1 pc = .ok (.invokestatic idx, 3)) (k : Ev g d mi (pc + 3) ls (.inl (.int x.toInt32) :: st) M mc ms Post) : Ev g d mi pc ls (.inl (.float x) :: st) M mc ms Post := by
  intro p e R s m args below meth c H locs cells slots lsA TC TS hC hM hS hl h1 h2 h3 h4
  obtain ⟨hx, hb, hml, hown, hr, hlk, hxt, hts, hK, hf, hlo, hnm⟩ := id hC
  have h9 := rest_ok (g := g) hst
  exact vn_f2i hx hb (by rw [hml]; exact hl.1.symm) hown (hts _ hw.1) (hts _ hw.2.1) (hts _ hw.2.2.1) (hts _ hw.2.2.2) (by omega) (by omega) hd (k p e R s m args below meth c H locs cells slots lsA TC TS hC hM hS hl h1 h2 h3 h4)
theorem ev_copyR {g : GL} {d : Nat} {mi : MI} {pc : Nat} {ls : List (Option RV)} {st : List RV} {mc ms : Nat} {Post : RO → RM → Prop} {G : RG} {idx nx o1 ei n0 n1 : Nat} {r0 : Nat × Nat} {ty : FieldType} {f0 f1 : Nat → RV} {sp dp n : Int32} (hst : st.length ≤ 4) (he : rTy[ei]? = some ty) (hprim : refKind ty = false) (hw : Cond.methodLink mi.1.cls idx arraycopyName ∈ lw_good ∧ Cond.native arraycopyName ∈ lw_good ∧ Cond.static arraycopyName ∈ lw_good ∧ Cond.initialized "java/lang/System" ∈ lw_good)
    (ha0 : rdM g (G, nx) r0 = some (true, ei, n0, f0)) (ha1 : G o1 = some (true, ei, n1, f1)) (g1 : ¬ sp < 0) (g2 : ¬ dp < 0) (g3 : ¬ n < 0) (g4 : sp.toNatClampNeg + n.toNatClampNeg ≤ n0) (g5 : dp.toNatClampNeg + n.toNatClampNeg ≤ n1) (hfit : ∀ i, i < n.toNatClampNeg → ∃ x, f0 (sp.toNatClampNeg + i) = .inl (.int x) ∧ fits ty (.int x) = true)
    (hd : decode mi.2.1 pc = .ok (.invokestatic idx, 3)) (k : Ev g d mi (pc + 3) ls st (wrG G o1 (true, ei, n1, va_cpy f0 f1 sp.toNatClampNeg dp.toNatClampNeg n.toNatClampNeg), nx) mc ms Post) : Ev g d mi pc ls (.inl (.int n) :: .inl (.int dp) :: .inr (0, o1) :: .inl (.int sp) :: .inr r0 :: st) (G, nx) mc ms Post := by
  intro p e R s m args below meth c H locs cells slots lsA TC TS hC hM hS hl h1 h2 h3 h4
  obtain ⟨hx, hb, hml, hown, hr, hlk, hxt, hts, hK, hf, hlo, hnm⟩ := id hC
  have h9 := rest_ok (g := g) hst
  obtain ⟨ty0, cs, p1, p2, p3, p4, p5, p6, p8, p7⟩ := cell_of hM hS hK ha0
  obtain ⟨ty1, cd, q1, q2, q3, q4, q5, q6, q8, q7⟩ := hM.2 o1 _ ha1
  cases he.symm.trans p1
  cases he.symm.trans q1
  have hloc9 : 2 * 0 + ((st.map (conc g)).map fun v => v.category).sum + (nativeFrameWords "java/lang/System" "arraycopy" 5 + 11) ≤ R.locals := by
    have : nativeFrameWords "java/lang/System" "arraycopy" 5 + 11 ≤ 100 := by decide +kernel
    omega
  have hcd := q8 (Nat.le_add_right _ _)
  rw [show (Sum.inl (Value.int n) :: .inl (.int dp) :: .inr (0, o1) :: .inl (.int sp) :: .inr r0 :: st : List RV).map (conc g) = .int n :: .int dp :: .ref (g.2.2.2.1 + o1) :: .int sp :: .ref (adM g r0) :: st.map (conc g) from by simp only [List.map_cons, conc_ref]; rfl]
  intro T hT X
  subst hT
  obtain ⟨hp3, k0, hk0, cm0, hkk0⟩ := id p3
  obtain ⟨hq3, k1, hk1, cm1, hkk1⟩ := id q3
  obtain ⟨vm', X', step⟩ := X.arraycopy hx hown (hts _ hw.1) (hts _ hw.2.1) (hts _ hw.2.2.1) (hts _ hw.2.2.2) (src := adM g r0) (dst := g.2.2.2.1 + o1) (cs := cs) (cd := cd) (srcPos := sp) (destPos := dp) (n := n) p2 q2 hp3 hq3 p4 q4 hk0 hk1 hkk0 hkk1 (by simp [hprim]) g1 g2 g3
    (by rw [nn9 g1, nn9 g3]; have := p5.1; omega) (by rw [nn9 g2, nn9 g3]; have := q5.1; omega)
    (fun vm₁ _ i hi => by
      obtain ⟨x, e1, e2⟩ := hfit i hi
      have e : cs.slots.getD (sp.toNatClampNeg + i) .null = .int x := by
        rw [Array.getD_eq_getD_getElem?, p7 _ (by omega), e1]
        rfl
      rw [e]
      exact ⟨e2, trivial⟩)
    (g := F0 m pc lsA (.int n :: .int dp :: .ref (g.2.2.2.1 + o1) :: .int sp :: .ref (adM g r0) :: st.map (conc g))) rfl (by rw [hml]; exact hl.1) (rest := st.map (conc g)) rfl (by rw [hb]; exact hd) (by omega) hloc9
  have e1 : copied cs cd sp dp n = arrV cd.cls n1 (fun j => conc g (va_cpy f0 f1 sp.toNatClampNeg dp.toNatClampNeg n.toNatClampNeg j)) := by
    rw [hcd]
    exact va_copiedX (conc g) cs cd.cls f0 f1 p7 g4
  rw [e1] at X' step
  have hl9 : g.2.2.2.1 + o1 < T.heap.size := (Array.getElem?_eq_some_iff.mp q2).1
  have hheap : ((T.setVm vm').setCell (g.2.2.2.1 + o1) (arrV cd.cls n1 (fun j => conc g (va_cpy f0 f1 sp.toNatClampNeg dp.toNatClampNeg n.toNatClampNeg j)))).heap = T.heap.setIfInBounds (g.2.2.2.1 + o1) (arrV cd.cls n1 (fun j => conc g (va_cpy f0 f1 sp.toNatClampNeg dp.toNatClampNeg n.toNatClampNeg j))) := rfl
  have oq : ∀ q : Nat, q ≠ g.2.2.2.1 + o1 → (T.heap.setIfInBounds (g.2.2.2.1 + o1) (arrV cd.cls n1 (fun j => conc g (va_cpy f0 f1 sp.toNatClampNeg dp.toNatClampNeg n.toNatClampNeg j))))[q]? = T.heap[q]? := fun q hq => by simp [Array.getElem?_setIfInBounds, Ne.symm hq]
  obtain ⟨t, a1, b1⟩ := k p e R s m args below meth c _ _ cells slots lsA TC TS hC (hM.wr ha1 (by simp) oq ⟨ty, arrV cd.cls n1 (fun j => conc g (va_cpy f0 f1 sp.toNatClampNeg dp.toNatClampNeg n.toNatClampNeg j)), q1, by simp [Array.getElem?_setIfInBounds, hl9], ⟨fun k h => (by cases h), k1, hk1, cm1, hkk1⟩, fun h => (by cases h), szA.of (arrV_size _ _ _), q6, fun _ => rfl, fun j hj => arrV_read _ _ hj⟩) ⟨by simp; exact hS.1, fun q g1 g2 => by
      rw [oq q (fun e => g2 (by rw [e]; exact Nat.le_add_right _ _))]
      exact hS.2.1 q g1 g2, fun q hq => by
      rcases List.mem_append.mp hq with h | h
      · exact hS.2.2 q h
      · obtain ⟨z, -, hz⟩ := List.mem_map.mp h
        rw [← hz]
        exact Nat.le_add_right _ _⟩ hl h1 h2 h3 h4 _ hheap X'
  exact ⟨t, step t a1, b1⟩
section Put
variable {g : GL} {G : RG} {B nx o a cap len : Nat} {tx : Nat → Int32} {r v : Nat × Nat} {l : List Nat}
def txS (tx : Nat → Int32) (len : Nat) (l : List Nat) : Nat → Int32 := fun i => if i < len then tx i else nI (l.getD (i - len) 0)
theorem M_getBytes (d : Nat) {k : Nat} {bf : Nat → RV} (hs : SR g (G, nx) r v l) (ha : G a = some (true, 2, cap, bf)) (hk : k + l.length ≤ cap) (hc : cap ≤ 4000) : Mt g (d + 1) m_String_getBytes_840e7 [.inr r, .inr (0, a), .inl (.int (nI k)), .inl (.int 0)] (G, nx) 0 0 (fun x M' => x = rV ∧ ∃ bf', M' = (wrG G a (true, 2, cap, bf'), nx) ∧ ∀ i, bf' i = if k ≤ i ∧ i < k + l.length then .inl (.int (nI (l.getD (i - k) 0))) else bf i) := by
  obtain ⟨ci, n, f, b0, h1, h2, h3, h4, h5, h6, h7, -, -⟩ := hs
  have lk : LV "java/lang/String" 335 ci 0 m_String_coder_7d493 := by
    rcases h1 with rfl | rfl
    · exact lj_String_335_0
    · exact lj_String_335_14
  refine Mt.of9 [some (.inr r), some (.inr (0, a)), some (.inl (.int (nI k))), some (.inl (.int 0))] (by decide +kernel) rfl rfl rfl rfl ?_
  refine ev_aload_n (k0 := 0) rfl d_String_getBytes_840e7_0 ?_
  refine Ev.z9 (ev_invV (vs := []) h2 lk (M_coder d h1 h2 h4) rfl (Nat.le_of_ble_eq_true rfl) d_String_getBytes_840e7_1 (aft_ro ?_))
  refine ev_iload_n (k0 := 3) rfl d_String_getBytes_840e7_4 ?_
  refine ev_icmp_ne (tgt := 28) (by decide) d_String_getBytes_840e7_5 (fun c => absurd rfl c) (fun _ => ?_)
  refine ev_aload_n (k0 := 0) rfl d_String_getBytes_840e7_8 ?_
  refine ev_getg (fj_val h1) h2 d_String_getBytes_840e7_9 ?_
  rw [h3]
  refine cw_iconst 0 d_String_getBytes_840e7_12 rfl ?_
  refine ev_aload_n (k0 := 1) rfl d_String_getBytes_840e7_13 ?_
  refine ev_iload_n (k0 := 2) rfl d_String_getBytes_840e7_14 ?_
  refine ev_iload_n (k0 := 3) rfl d_String_getBytes_840e7_15 ?_
  refine ev_ishl d_String_getBytes_840e7_16 ?_
  rw [sb_shl0]
  refine ev_aload_n (k0 := 0) rfl d_String_getBytes_840e7_17 ?_
  refine ev_getg (fj_val h1) h2 d_String_getBytes_840e7_18 ?_
  rw [h3]
  refine ev_alen h5 d_String_getBytes_840e7_21 ?_
  have hc0 : (0 : Int32).toNatClampNeg = 0 := by decide
  have hcl : (Int32.ofNat l.length).toNatClampNeg = l.length := nI_clamp (by omega)
  have hck : (nI k).toNatClampNeg = k := nI_clamp (by omega)
  refine ev_copyR (Nat.le_of_ble_eq_true rfl) (ei := 2) rfl rfl lj_String_212 h5 ha (by decide) (nI_pos (by omega)) (nI_pos (n := l.length) (by omega)) (by rw [hc0, hcl]; omega) (by rw [hck, hcl]; omega) (fun i hi => by
    rw [hcl] at hi
    rw [hc0, Nat.zero_add]
    exact ⟨_, h6 i hi, (by9 (h7 i hi)).2.2⟩) d_String_getBytes_840e7_22 ?_
  rw [hc0, hck, hcl]
  refine ev_goto (tgt := 43) (by decide) d_String_getBytes_840e7_25 ?_
  refine ev_return (st := []) rfl d_String_getBytes_840e7_43 ⟨rfl, _, rfl, fun i => ?_⟩
  unfold va_cpy
  by_cases e : k ≤ i ∧ i < k + l.length
  · rw [if_pos e, if_pos e, Nat.zero_add]
    exact h6 (i - k) (by omega)
  · rw [if_neg e, if_neg e]
theorem M_inflateIf (d : Nat) {M : RM} {n : Nat} {f : Nat → RV} (hs : SR g M r v l) (ho : rdM g M (0, o) = some (false, 1, n, f)) (h1 : f 1 = .inl (.int 0)) : Mt g (d + 1) m_AbstractStringBuilder_inflateIfNeededFor_a7421 [.inr (0, o), .inr r] M 0 0 (pRO rV M) := by
  obtain ⟨ci, n2, f2, b0, g1, g2, g3, g4, g5, g6, g7, -, -⟩ := hs
  have lk : LV "java/lang/AbstractStringBuilder" 40 ci 0 m_String_coder_7d493 := by
    rcases g1 with rfl | rfl
    · exact lj_AbstractStringBuilder_40_0
    · exact lj_AbstractStringBuilder_40_14
  refine Mt.of9 [some (.inr (0, o)), some (.inr r)] (by decide +kernel) rfl rfl rfl rfl ?_
  refine ev_gets sa_cs sj_AbstractStringBuilder_18 (Or.inl rfl) d_AbstractStringBuilder_inflateIfNeededFor_a7421_0 ?_
  refine ev_if_eq (tgt := 21) (by decide) d_AbstractStringBuilder_inflateIfNeededFor_a7421_3 (fun c => absurd c (by decide)) (fun _ => ?_)
  refine ev_aload_n (k0 := 0) rfl d_AbstractStringBuilder_inflateIfNeededFor_a7421_6 ?_
  refine ev_getg gj_AbstractStringBuilder_22_1 ho d_AbstractStringBuilder_inflateIfNeededFor_a7421_7 ?_
  rw [h1]
  refine ev_aload_n (k0 := 1) rfl d_AbstractStringBuilder_inflateIfNeededFor_a7421_10 ?_
  refine Ev.z9 (ev_invV (vs := []) g2 lk (M_coder d g1 g2 g4) rfl (Nat.le_of_ble_eq_true rfl) d_AbstractStringBuilder_inflateIfNeededFor_a7421_11 (aft_ro ?_))
  refine ev_icmp_eq (tgt := 21) (by decide) d_AbstractStringBuilder_inflateIfNeededFor_a7421_14 (fun _ => ?_) (fun c => absurd rfl c)
  exact ev_return (st := []) rfl d_AbstractStringBuilder_inflateIfNeededFor_a7421_21 ⟨rfl, rfl⟩
theorem M_putString (d : Nat) {k n : Nat} {f bf : Nat → RV} (hs : SR g (G, nx) r v l) (ho : G o = some (false, 1, n, f)) (h0 : f 0 = .inr (0, a)) (h1 : f 1 = .inl (.int 0)) (ha : G a = some (true, 2, cap, bf)) (hk : k + l.length ≤ cap) (hc : cap ≤ 4000) : Mt g (d + 2) m_AbstractStringBuilder_putStringAt_47b60 [.inr (0, o), .inl (.int (nI k)), .inr r] (G, nx) 0 0 (fun x M' => x = rV ∧ ∃ bf', M' = (wrG G a (true, 2, cap, bf'), nx) ∧ ∀ i, bf' i = if k ≤ i ∧ i < k + l.length then .inl (.int (nI (l.getD (i - k) 0))) else bf i) := by
  have ho' : rdM g (G, nx) (0, o) = some (false, 1, n, f) := ho
  have hs0 := hs
  obtain ⟨ci, n2, f2, b0, g1, g2, -⟩ := hs
  have lk : LV "java/lang/AbstractStringBuilder" 399 ci 3 m_String_getBytes_840e7 := by
    rcases g1 with rfl | rfl
    · exact lj_AbstractStringBuilder_399_0
    · exact lj_AbstractStringBuilder_399_14
  refine Mt.of9 [some (.inr (0, o)), some (.inl (.int (nI k))), some (.inr r)] (by decide +kernel) rfl rfl rfl rfl ?_
  refine ev_aload_n (k0 := 0) rfl d_AbstractStringBuilder_putStringAt_47b60_0 ?_
  refine ev_aload_n (k0 := 2) rfl d_AbstractStringBuilder_putStringAt_47b60_1 ?_
  refine Ev.z9 (ev_invU (vs := [.inr r]) ho' lj_AbstractStringBuilder_397_1 (M_inflateIf d hs0 ho' h1) rfl (Nat.le_of_ble_eq_true rfl) d_AbstractStringBuilder_putStringAt_47b60_2 (aft_ro ?_))
  refine ev_aload_n (k0 := 2) rfl d_AbstractStringBuilder_putStringAt_47b60_5 ?_
  refine ev_aload_n (k0 := 0) rfl d_AbstractStringBuilder_putStringAt_47b60_6 ?_
  refine ev_getg gj_AbstractStringBuilder_15_1 ho' d_AbstractStringBuilder_putStringAt_47b60_7 ?_
  rw [h0]
  refine ev_iload_n (k0 := 1) rfl d_AbstractStringBuilder_putStringAt_47b60_10 ?_
  refine ev_aload_n (k0 := 0) rfl d_AbstractStringBuilder_putStringAt_47b60_11 ?_
  refine ev_getg gj_AbstractStringBuilder_22_1 ho' d_AbstractStringBuilder_putStringAt_47b60_12 ?_
  rw [h1]
  refine Ev.z9 (ev_invV (vs := [.inr (0, a), .inl (.int (nI k)), .inl (.int 0)]) g2 lk (M_getBytes d hs0 ha hk hc) rfl (Nat.le_of_ble_eq_true rfl) d_AbstractStringBuilder_putStringAt_47b60_15 ⟨fun w M' hP => ?_, fun E M' hP => ?_⟩)
  · obtain ⟨hw, hP⟩ := hP
    cases hw
    exact ev_return (st := []) rfl d_AbstractStringBuilder_putStringAt_47b60_18 ⟨rfl, hP⟩
  · obtain ⟨hw, -⟩ := hP
    cases hw
theorem M_appendS0 (d : Nat) (h : SB B G nx o a cap len tx) (hs : SR g (G, nx) r v l) (hva : v ≠ (0, a)) (hl : len + l.length ≤ B) : Mt g (d + 3) m_AbstractStringBuilder_append_cf1ce [.inr (0, o), .inr r] (G, nx) 1 (2 * B) (pSB B (.inr (some (.inr (0, o)))) G nx o a (len + l.length) (txS tx len l)) := by
  have h9 := h
  obtain ⟨⟨n, f, ho, h0, h1, h3⟩, ⟨bfa, ha, -⟩, -, -, -, -, -, hB⟩ := h
  have ho' : rdM g (G, nx) (0, o) = some (false, 1, n, f) := ho
  have hs0 := hs
  obtain ⟨ci, n2, f2, b0, g1, g2, g3, g4, g5, g6, g7, g8, g9⟩ := hs
  have lk : LV "java/lang/AbstractStringBuilder" 32 ci 0 m_String_length_8abf5 := by
    rcases g1 with rfl | rfl
    · exact lj_AbstractStringBuilder_32_0
    · exact lj_AbstractStringBuilder_32_14
  refine Mt.of9 [some (.inr (0, o)), some (.inr r), none] (by decide +kernel) rfl rfl rfl rfl ?_
  refine ev_aload_n (k0 := 1) rfl d_AbstractStringBuilder_append_cf1ce_0 ?_
  refine ev_ifnn (tgt := 9) (by decide) d_AbstractStringBuilder_append_cf1ce_1 ?_
  refine ev_aload_n (k0 := 1) rfl d_AbstractStringBuilder_append_cf1ce_9 ?_
  refine Ev.z9 (ev_invV (vs := []) g2 lk (M_length (d + 1) g1 g2 g3 g4 g5) rfl (Nat.le_of_ble_eq_true rfl) d_AbstractStringBuilder_append_cf1ce_10 (aft_ro ?_))
  refine cw_istoreN_n 2 (nI l.length) rfl [some (.inr (0, o)), some (.inr r), some (.inl (.int (nI l.length)))] d_AbstractStringBuilder_append_cf1ce_13 rfl rfl rfl ?_
  refine ev_aload_n (k0 := 0) rfl d_AbstractStringBuilder_append_cf1ce_14 ?_
  refine ev_aload_n (k0 := 0) rfl d_AbstractStringBuilder_append_cf1ce_15 ?_
  refine ev_getg gj_AbstractStringBuilder_79_1 ho' d_AbstractStringBuilder_append_cf1ce_16 ?_
  rw [h3]
  refine ev_iload_n (k0 := 2) rfl d_AbstractStringBuilder_append_cf1ce_19 ?_
  refine ev_iadd d_AbstractStringBuilder_append_cf1ce_20 ?_
  rw [nI_add]
  refine Ev.room (mc := 1 + 0) (ms := 2 * B + 0) (ev_invU (vs := [.inl (.int (nI (len + l.length)))]) ho' lj_AbstractStringBuilder_100_1 (M_ensure d h9 hl) rfl (Nat.le_of_ble_eq_true rfl) d_AbstractStringBuilder_append_cf1ce_21 ⟨fun w M' hP => ?_, fun E M' hP => ?_⟩) (by omega) (by omega)
  · obtain ⟨hw, a', cap', hS, hqc, haa, hF⟩ := hP
    cases hw
    obtain ⟨G', nx'⟩ := M'
    obtain ⟨⟨n', f', go, q0, q1, q3⟩, ⟨bf, ga, gb1, gb2⟩, goa, gon, gan, glc, gcap⟩ := hS
    have go' : rdM g (G', nx') (0, o) = some (false, 1, n', f') := go
    have hs1 : SR g (G', nx') r v l := hs0.keep hF.1.1 (fun q hq hz => hF.2 q hq (fun z => by
      subst z
      rcases hz with hz | hz
      · subst hz
        have e := ho'.symm.trans g2
        simp only [Option.some.injEq, Prod.mk.injEq] at e
        rcases g1 with z | z <;> omega
      · subst hz
        have e := ho'.symm.trans g5
        simp at e) (fun z => by
      subst z
      rcases hz with hz | hz
      · subst hz
        have e : some (true, 2, cap, bfa) = some (false, ci, n2, f2) := ha.symm.trans g2
        simp at e
      · exact hva hz))
    show Ev g (d + 2 + 1) _ 24 _ [] _ 0 0 _
    refine ev_aload_n (k0 := 0) rfl d_AbstractStringBuilder_append_cf1ce_24 ?_
    refine ev_aload_n (k0 := 0) rfl d_AbstractStringBuilder_append_cf1ce_25 ?_
    refine ev_getg gj_AbstractStringBuilder_79_1 go' d_AbstractStringBuilder_append_cf1ce_26 ?_
    rw [q3]
    refine ev_aload_n (k0 := 1) rfl d_AbstractStringBuilder_append_cf1ce_29 ?_
    refine Ev.z9 (ev_invU (vs := [.inl (.int (nI len)), .inr r]) go' lj_AbstractStringBuilder_208_1 (M_putString d hs1 go q0 q1 ga (by omega) (by omega)) rfl (Nat.le_of_ble_eq_true rfl) d_AbstractStringBuilder_append_cf1ce_30 ⟨fun w M2 hP => ?_, fun E M2 hP => ?_⟩)
    · obtain ⟨hw, bf2, rfl, hbf⟩ := hP
      cases hw
      have go2 : (wrG G' a' (true, 2, cap', bf2)) o = some (false, 1, n', f') := by rw [wrG_N goa]; exact go
      refine ev_aload_n (k0 := 0) rfl d_AbstractStringBuilder_append_cf1ce_33 ?_
      refine ev_dup rfl d_AbstractStringBuilder_append_cf1ce_34 ?_
      refine ev_getg gj_AbstractStringBuilder_79_1 (show rdM g (wrG G' a' (true, 2, cap', bf2), nx') (0, o) = _ from go2) d_AbstractStringBuilder_append_cf1ce_35 ?_
      rw [q3]
      refine ev_iload_n (k0 := 2) rfl d_AbstractStringBuilder_append_cf1ce_38 ?_
      refine ev_iadd d_AbstractStringBuilder_append_cf1ce_39 ?_
      rw [nI_add]
      refine ev_putf (M := (G, nx)) fj_AbstractStringBuilder_79_1 go2 (show okv g .int _ from okv_int) d_AbstractStringBuilder_append_cf1ce_40 ?_
      refine ev_aload_n (k0 := 0) rfl d_AbstractStringBuilder_append_cf1ce_43 ?_
      refine ev_areturn (st := []) rfl (Or.inl ⟨_, rfl⟩) d_AbstractStringBuilder_append_cf1ce_44 ⟨rfl, a', cap', ⟨⟨n', updF f' 3 (.inl (.int (nI (len + l.length)))), wrG_S, q0, q1, rfl⟩, ⟨bf2, by show wrG _ o _ a' = _; rw [wrG_N (fun z => goa z.symm)]; exact wrG_S, fun i hi => ?_, fun i hi => ?_⟩, goa, gon, gan, hqc, gcap⟩, haa, hF.1, fun q z1 z2 z3 => ?_⟩
      · show bf2 i = .inl (.int (if i < len then tx i else nI (l.getD (i - len) 0)))
        rw [hbf]
        by_cases e : i < len
        · rw [if_pos e, if_neg (by omega)]
          exact gb1 i e
        · rw [if_neg e, if_pos (by omega)]
      · rw [hbf]
        by_cases e : len ≤ i ∧ i < len + l.length
        · rw [if_pos e]
          exact ⟨_, rfl, (by9 (g7 (i - len) (by omega))).2.2⟩
        · rw [if_neg e]
          exact gb2 i hi
      · show wrG _ o _ q = G q
        rw [wrG_N z2, wrG_N (by omega)]
        exact hF.2 q z1 z2 z3
    · obtain ⟨hw, -⟩ := hP
      cases hw
  · obtain ⟨hw, -⟩ := hP
    cases hw
theorem M_appendS (d : Nat) (h : SB B G nx o a cap len tx) (hs : SR g (G, nx) r v l) (hva : v ≠ (0, a)) (hl : len + l.length ≤ B) : Mt g (d + 4) m_StringBuilder_append_15ec4 [.inr (0, o), .inr r] (G, nx) 1 (2 * B) (pSB B (.inr (some (.inr (0, o)))) G nx o a (len + l.length) (txS tx len l)) := by
  have h9 := h
  obtain ⟨⟨n, f, ho, h0, h1, h3⟩, -⟩ := h
  have ho' : rdM g (G, nx) (0, o) = some (false, 1, n, f) := ho
  refine Mt.of9 [some (.inr (0, o)), some (.inr r)] (by decide +kernel) rfl rfl rfl rfl ?_
  refine ev_aload_n (k0 := 0) rfl d_StringBuilder_append_15ec4_0 ?_
  refine ev_aload_n (k0 := 1) rfl d_StringBuilder_append_15ec4_1 ?_
  refine Ev.room (mc := 1 + 0) (ms := 2 * B + 0) (ev_invSU (ci := 1) rfl (vs := [.inr r]) ho' lj_StringBuilder_29 (M_appendS0 d h9 hs hva hl) rfl (Nat.le_of_ble_eq_true rfl) d_StringBuilder_append_15ec4_2 ⟨fun w M' hP => ?_, fun E M' hP => ?_⟩) (by omega) (by omega)
  · obtain ⟨hw, hP⟩ := hP
    cases hw
    refine ev_pop rfl d_StringBuilder_append_15ec4_5 ?_
    refine ev_aload_n (k0 := 0) rfl d_StringBuilder_append_15ec4_6 ?_
    exact ev_areturn (st := []) rfl (Or.inl ⟨_, rfl⟩) d_StringBuilder_append_15ec4_7 ⟨rfl, hP⟩
  · obtain ⟨hw, -⟩ := hP
    cases hw
theorem M_appendSB (d : Nat) (h : SB B G nx o a cap len tx) (hs : SR g (G, nx) r v l) (hva : v ≠ (0, a)) (hl : len + l.length ≤ B) : Mt g (d + 5) m_StringBuilder_append_cf1ce [.inr (0, o), .inr r] (G, nx) 1 (2 * B) (pSB B (.inr (some (.inr (0, o)))) G nx o a (len + l.length) (txS tx len l)) := by
  have h9 := h
  obtain ⟨⟨n, f, ho, h0, h1, h3⟩, -⟩ := h
  have ho' : rdM g (G, nx) (0, o) = some (false, 1, n, f) := ho
  refine Mt.of9 [some (.inr (0, o)), some (.inr r)] (by decide +kernel) rfl rfl rfl rfl ?_
  refine ev_aload_n (k0 := 0) rfl d_StringBuilder_append_cf1ce_0 ?_
  refine ev_aload_n (k0 := 1) rfl d_StringBuilder_append_cf1ce_1 ?_
  refine Ev.room (mc := 1 + 0) (ms := 2 * B + 0) (ev_invV (vs := [.inr r]) ho' lj_StringBuilder_23_1 (M_appendS d h9 hs hva hl) rfl (Nat.le_of_ble_eq_true rfl) d_StringBuilder_append_cf1ce_2 ⟨fun w M' hP => ?_, fun E M' hP => ?_⟩) (by omega) (by omega)
  · obtain ⟨hw, hP⟩ := hP
    cases hw
    exact ev_areturn (st := []) rfl (Or.inl ⟨_, rfl⟩) d_StringBuilder_append_cf1ce_5 ⟨rfl, hP⟩
  · obtain ⟨hw, -⟩ := hP
    cases hw
end Put
section MadeS
variable {g : GL} {G : RG} {B nx o : Nat} {r v : Nat × Nat} {l : List Nat}
def ltx (l : List Nat) : Nat → Int32 := fun i => nI (l.getD i 0)
theorem SB.cong {G : RG} {B nx o a cap len : Nat} {tx tx' : Nat → Int32} (h : SB B G nx o a cap len tx) (e : ∀ i, i < len → tx' i = tx i) : SB B G nx o a cap len tx' := by
  obtain ⟨h1, ⟨bf, h2, h3, h4⟩, h5⟩ := h
  exact ⟨h1, ⟨bf, h2, fun i hi => (h3 i hi).trans (by rw [e i hi]), h4⟩, h5⟩
/-- AbstractStringBuilder(text) on the object o -/
theorem M_absInitS (d : Nat) {n : Nat} {f : Nat → RV} (hB : 8 ≤ B ∧ B ≤ 1000) (ho : G o = some (false, 1, n, f)) (h3 : f 3 = .inl (.int 0)) (hon : o < nx) (hs : SR g (G, nx) r v l) (hl : l.length ≤ B) (hl2 : l.length + 16 ≤ 2 * B) : Mt g (d + 6) m_AbstractStringBuilder_init_a7421 [.inr (0, o), .inr r] (G, nx) 2 (l.length + 16 + 2 * B) (fun x M' => x = rV ∧ ∃ a' cap', SB B M'.1 M'.2 o a' cap' l.length (ltx l) ∧ nx ≤ a' ∧ (nx ≤ M'.2 ∧ M'.2 ≤ nx + 2) ∧ ∀ q, q < nx → q ≠ o → M'.1 q = G q) := by
  have hs0 := hs
  obtain ⟨ci, n2, f2, b0, g1, g2, g3, g4, g5, g6, g7, g8, g9⟩ := hs
  have lk : LV "java/lang/AbstractStringBuilder" 32 ci 0 m_String_length_8abf5 := by
    rcases g1 with rfl | rfl
    · exact lj_AbstractStringBuilder_32_0
    · exact lj_AbstractStringBuilder_32_14
  have lk2 : LV "java/lang/AbstractStringBuilder" 40 ci 0 m_String_coder_7d493 := by
    rcases g1 with rfl | rfl
    · exact lj_AbstractStringBuilder_40_0
    · exact lj_AbstractStringBuilder_40_14
  refine Mt.of9 [some (.inr (0, o)), some (.inr r), none, none, none] (by decide +kernel) rfl rfl rfl rfl ?_
  refine ev_aload_n (k0 := 0) rfl d_AbstractStringBuilder_init_a7421_0 ?_
  refine ev_objInit (Nat.le_of_ble_eq_true rfl) oj_AbstractStringBuilder_3 oi_1 oi_2 d_AbstractStringBuilder_init_a7421_1 ?_
  refine ev_aload_n (k0 := 1) rfl d_AbstractStringBuilder_init_a7421_4 ?_
  refine Ev.z9 (ev_invV (vs := []) g2 lk (M_length (d + 4) g1 g2 g3 g4 g5) rfl (Nat.le_of_ble_eq_true rfl) d_AbstractStringBuilder_init_a7421_5 (aft_ro ?_))
  refine cw_istoreN_n 2 (nI l.length) rfl [some (.inr (0, o)), some (.inr r), some (.inl (.int (nI l.length))), none, none] d_AbstractStringBuilder_init_a7421_8 rfl rfl rfl ?_
  refine ev_iload_n (k0 := 2) rfl d_AbstractStringBuilder_init_a7421_9 ?_
  refine ev_ldc (v := 2147483631) kj_A38 d_AbstractStringBuilder_init_a7421_10 ?_
  refine ev_icmp_ge (tgt := 22) (by decide) d_AbstractStringBuilder_init_a7421_12 (fun c => absurd (show nI 2147483631 ≤ nI l.length from c) (nI_ge (by omega) (by omega))) (fun _ => ?_)
  refine ev_iload_n (k0 := 2) rfl d_AbstractStringBuilder_init_a7421_15 ?_
  refine cw_bipush 16 d_AbstractStringBuilder_init_a7421_16 rfl ?_
  refine ev_iadd d_AbstractStringBuilder_init_a7421_18 ?_
  rw [show nI l.length + 16 = nI (l.length + 16) from nI_add _ _]
  refine ev_goto (tgt := 24) (by decide) d_AbstractStringBuilder_init_a7421_19 ?_
  refine cw_istoreN_n 3 (nI (l.length + 16)) rfl [some (.inr (0, o)), some (.inr r), some (.inl (.int (nI l.length))), some (.inl (.int (nI (l.length + 16)))), none] d_AbstractStringBuilder_init_a7421_24 rfl rfl rfl ?_
  refine ev_aload_n (k0 := 1) rfl d_AbstractStringBuilder_init_a7421_25 ?_
  refine Ev.z9 (ev_invV (vs := []) g2 lk2 (M_coder (d + 5) g1 g2 g4) rfl (Nat.le_of_ble_eq_true rfl) d_AbstractStringBuilder_init_a7421_26 (aft_ro ?_))
  refine cw_istoreN 4 0 rfl [some (.inr (0, o)), some (.inr r), some (.inl (.int (nI l.length))), some (.inl (.int (nI (l.length + 16)))), some (.inl (.int 0))] d_AbstractStringBuilder_init_a7421_29 rfl rfl rfl ?_
  refine ev_aload_n (k0 := 0) rfl d_AbstractStringBuilder_init_a7421_31 ?_
  refine ev_iload (i := 4) rfl d_AbstractStringBuilder_init_a7421_32 ?_
  refine ev_putf (M := (G, nx)) fj_AbstractStringBuilder_22_1 ho (show okv g .byte _ from ⟨rfl, rfl⟩) d_AbstractStringBuilder_init_a7421_34 ?_
  refine ev_aload_n (k0 := 0) rfl d_AbstractStringBuilder_init_a7421_37 ?_
  refine ev_iload (i := 4) rfl d_AbstractStringBuilder_init_a7421_38 ?_
  refine ev_if_ne (tgt := 49) (by decide) d_AbstractStringBuilder_init_a7421_40 (fun c => absurd rfl c) (fun _ => ?_)
  refine ev_iload_n (k0 := 3) rfl d_AbstractStringBuilder_init_a7421_43 ?_
  refine Ev.room (mc := 1 + 1) (ms := 2 * B + (l.length + 16)) (ev_newa (M := (G, nx)) (ei := 2) (n := l.length + 16) (at0 := .byte) (ty := .byte) rfl rfl (by decide) ac_byte (nI_pos (by omega)) (nI_clamp (by omega)) (by show (l.length + 16) * 1 ≤ _; omega) d_AbstractStringBuilder_init_a7421_44 ?_) (by omega) (by omega)
  refine ev_goto (tgt := 53) (by decide) d_AbstractStringBuilder_init_a7421_46 ?_
  refine ev_putf (M := (G, nx)) fj_AbstractStringBuilder_15_1 ((wrG_N (by omega)).trans wrG_S) (show okv g (.array .byte) _ from okv_arr) d_AbstractStringBuilder_init_a7421_53 ?_
  refine ev_aload_n (k0 := 0) rfl d_AbstractStringBuilder_init_a7421_56 ?_
  refine ev_aload_n (k0 := 1) rfl d_AbstractStringBuilder_init_a7421_57 ?_
  generalize hG9 : wrG (wrG (wrG G o _) nx _) o _ = G9
  have ne : ∀ q, q < nx → q ≠ o → G9 q = G q := fun q q1 q2 => by rw [← hG9, wrG_N q2, wrG_N (by omega), wrG_N q2]
  have hb0 : SB B G9 (nx + 1) o nx (l.length + 16) 0 (ltx l) := by
    rw [← hG9]
    exact ⟨⟨n, _, wrG_S, rfl, rfl, h3⟩, ⟨zb, (wrG_N (by omega)).trans wrG_S, fun i hi => by omega, fun i _ => okB_zb⟩, by omega, by omega, by omega, by omega, by omega⟩
  have hro : ∀ q, r = (0, q) → q ≠ o := fun q e z => by
    subst z; subst e
    have e := (show rdM g (G, nx) (0, q) = _ from ho).symm.trans g2
    simp only [Option.some.injEq, Prod.mk.injEq] at e
    rcases g1 with z | z <;> omega
  have hvo : ∀ q, v = (0, q) → q ≠ o := fun q e z => by
    subst z; subst e
    have e := (show rdM g (G, nx) (0, q) = _ from ho).symm.trans g5
    simp at e
  have hs9 : SR g (G9, nx + 1) r v l := hs0.keep (by omega) (fun q q1 q2 => ne q q1 (by rcases q2 with q2 | q2; exact hro q q2; exact hvo q q2))
  obtain ⟨⟨n9, f9, ho9, -⟩, -⟩ := id hb0
  refine Ev.room (mc := 1 + 0) (ms := 2 * B + 0) (ev_invO (vs := [.inr r]) (show rdM g (G9, nx + 1) (0, o) = _ from ho9) lo_AbstractStringBuilder_43_1 (M_appendSB d hb0 hs9 (fun z => by have := g9 (by rw [z]); rw [z] at this; simp at this) (by omega)) rfl (Nat.le_of_ble_eq_true rfl) d_AbstractStringBuilder_init_a7421_58 ⟨fun w M' hP => ?_, fun E M' hP => ?_⟩) (by omega) (by omega)
  · obtain ⟨hw, a', cap', p1, p2, p3⟩ := hP
    cases hw
    refine ev_pop rfl d_AbstractStringBuilder_init_a7421_61 ?_
    refine ev_return (st := []) rfl d_AbstractStringBuilder_init_a7421_62 ⟨rfl, a', cap', ?_, by omega, ⟨by have := p3.1.1; omega, by have := p3.1.2; omega⟩, fun q q1 q2 => (p3.2 q (by omega) q2 (by omega)).trans (ne q q1 q2)⟩
    rw [Nat.zero_add] at p1
    exact p1.cong (fun i hi => by unfold txS ltx; rw [if_neg (by omega), Nat.sub_zero])
  · obtain ⟨hw, -⟩ := hP
    cases hw
theorem M_sbInitS (d : Nat) {n : Nat} {f : Nat → RV} (hB : 8 ≤ B ∧ B ≤ 1000) (ho : G o = some (false, 1, n, f)) (h3 : f 3 = .inl (.int 0)) (hon : o < nx) (hs : SR g (G, nx) r v l) (hl : l.length ≤ B) (hl2 : l.length + 16 ≤ 2 * B) : Mt g (d + 7) m_StringBuilder_init_a7421 [.inr (0, o), .inr r] (G, nx) 2 (l.length + 16 + 2 * B) (fun x M' => x = rV ∧ ∃ a' cap', SB B M'.1 M'.2 o a' cap' l.length (ltx l) ∧ nx ≤ a' ∧ (nx ≤ M'.2 ∧ M'.2 ≤ nx + 2) ∧ ∀ q, q < nx → q ≠ o → M'.1 q = G q) := by
  refine Mt.of9 [some (.inr (0, o)), some (.inr r)] (by decide +kernel) rfl rfl rfl rfl ?_
  refine ev_aload_n (k0 := 0) rfl d_StringBuilder_init_a7421_0 ?_
  refine ev_aload_n (k0 := 1) rfl d_StringBuilder_init_a7421_1 ?_
  refine Ev.room (mc := 2 + 0) (ms := l.length + 16 + 2 * B + 0) (ev_invI (vs := [.inr r]) lj_StringBuilder_7 (M_absInitS d hB ho h3 hon hs hl hl2) rfl (Nat.le_of_ble_eq_true rfl) d_StringBuilder_init_a7421_2 ⟨fun w M' hP => ?_, fun E M' hP => ?_⟩) (by omega) (by omega)
  · obtain ⟨hw, hP⟩ := hP
    cases hw
    exact ev_return (st := []) rfl d_StringBuilder_init_a7421_5 ⟨rfl, hP⟩
  · obtain ⟨hw, -⟩ := hP
    cases hw
end MadeS
theorem vx_ofWF {l : Launch} {y : MethodName} {ws ws' : List Cond} {rm : Room} {Pc : Array Value → State → Prop} {Qc : Array Value → State → Outcome → State → Prop} {XC : String → State → State → Prop} {mc ms : Nat} {free : Addr → Prop} {cc : ByteArray} {maxL : Nat} {ret : Option FieldType}
    (hy : plainFor y = true) (hw : ws = Cond.code y cc maxL ret :: ws')
    (body : ∀ p e s m args below meth c s₁, BodyLoose p l y (headSpec ws rm) cc maxL ret e s m args below meth c s₁ → c.maxLocals = maxL → (∀ x ∈ c.exceptionTable.toList, False) → Pc args s →
      W p l e (headSpec ws rm).room s m args below meth c s.heap [] 0 0 (vx_MQ below Qc XC args s mc ms free) (entryFrame m args maxL)) : vx_Met l y ws rm Pc Qc XC mc ms free := by
  refine MetFree.of_bodySF (code := cc) (maxLocals := maxL) (ret := ret) hy ?_ ?_
  · intro args s m h hn
    obtain ⟨meth, c, h1, h2, h3, h4, h5, h6, -, -⟩ := Cond.code_spec hn (atoms_spec (ws := ws) h _ (by rw [hw]; exact List.mem_cons_self))
    exact ⟨meth, c, h1, h2, h3, h4, h5, h6⟩
  · intro p e s m args below meth c s₁ B hml hP _
    have hh0 : s₁.heap = s.heap := by rw [B.state]; rfl
    have ht : ∀ x ∈ c.exceptionTable.toList, False := by
      obtain ⟨meth9, c9, h1, h2, -, -, -, -, h7, -⟩ := Cond.code_spec B.named (atoms_spec (ws := ws) B.pre _ (by rw [hw]; exact List.mem_cons_self))
      cases Option.some.inj (h1.symm.trans B.method)
      cases Option.some.inj (h2.symm.trans (Stand.of_body B).code)
      intro x hx
      rw [Array.isEmpty_iff.mp h7] at hx
      cases hx
    obtain ⟨t, a1, o, b1, b2, b3⟩ := body p e s m args below meth c s₁ B hml ht hP s₁ hh0 (Stand.of_body B)
    exact ⟨t, o, a1, b1, b2, b3⟩
/-- the table of a body with handlers -/
theorem Mt.ofF {g : GL} {d : Nat} {mi : MI} {vs : List RV} {M : RM} {mc ms : Nat} {Post : RO → RM → Prop} (hy : plainFor mi.1 = true) (hh : mi.2.2.2.2 = []) (ha : ∀ v ∈ vs, one1 v = true) (hn : vs.length ≤ mi.2.2.1) (k : Ev g d mi 0 (fill mi.2.2.1 vs) [] M mc ms Post) : Mt g d mi vs M mc ms Post := by
  intro hmc9
  refine vx_ofWF (cc := mi.2.1) (maxL := mi.2.2.1) (ret := mi.2.2.2.1) (ws' := lw_good) hy (by unfold wsM cdW; rw [if_pos hh]) ?_
  intro p e s m args below meth c s₁ B hml ht hv
  obtain ⟨rfl, hKU, hMR⟩ := hv
  have hts := atoms_spec (ws := wsM mi) B.pre
  rw [lg_entry_eq]
  have hx9 : c.exceptionTable.toList = tableOf mi.2.2.2.2 := by
    rw [hh]
    cases hc : c.exceptionTable.toList with
    | nil => rfl
    | cons a l => exact (ht a (by rw [hc]; exact List.mem_cons_self)).elim
  exact k p e (rmD d mc ms) s m _ below meth c s.heap [] 0 0 _ mc ms ⟨B.exec, B.bytes, hml, findClass_of_methodNamed B.named, B.returns, B.notSynchronized, hx9, fun w hw => hts w (List.mem_cons_of_mem _ hw), hKU, Nat.le_refl _, Nat.le_refl _, (name_of_methodNamed B.named B.method).1⟩ hMR va_S.rf (lvl_lists ha hn) (by omega) (by omega) ⟨Nat.le_refl _, hmc9⟩ (Nat.le_refl _)
theorem Mt.of9F {g : GL} {d : Nat} {mi : MI} {vs : List RV} {M : RM} {mc ms : Nat} {Post : RO → RM → Prop} (ls : List (Option RV)) (hy : plainFor mi.1 = true) (hh : mi.2.2.2.2 = []) (ha : vs.all one1 = true) (hn : Nat.ble vs.length mi.2.2.1 = true) (hl : fill mi.2.2.1 vs = ls) (k : Ev g d mi 0 ls [] M mc ms Post) : Mt g d mi vs M mc ms Post := by
  subst hl
  exact Mt.ofF hy hh (fun v hv => List.all_eq_true.mp ha v hv) (Nat.le_of_ble_eq_true hn) k
section Bits
variable {g : GL} {M : RM}
theorem M_isNaN (d : Nat) {x : UInt32} (hx : Op.cmpValue (FP.fcmp x x) .l = 0) : Mt g d m_Float_isNaN_12338 [.inl (.float x)] M 0 0 (pRO (rI 0) M) := by
  refine Mt.of9F [some (.inl (.float x))] (by decide +kernel) rfl rfl rfl rfl ?_
  refine ev_fload_n (k0 := 0) rfl d_Float_isNaN_12338_0 ?_
  refine ev_fload_n (k0 := 0) rfl d_Float_isNaN_12338_1 ?_
  refine ev_fcmp d_Float_isNaN_12338_2 ?_
  refine ev_if_eq (tgt := 10) (by decide) d_Float_isNaN_12338_3 (fun _ => ?_) (fun c => absurd hx c)
  refine cw_iconst 0 d_Float_isNaN_12338_10 rfl ?_
  exact ev_ireturn (st := []) rfl rfl d_Float_isNaN_12338_11 ⟨rfl, rfl⟩
theorem M_floatBits (d : Nat) {x : UInt32} (hx : Op.cmpValue (FP.fcmp x x) .l = 0) : Mt g (d + 1) m_Float_floatToIntBits_5c35a [.inl (.float x)] M 0 0 (pRO (rI x.toInt32) M) := by
  refine Mt.of9F [some (.inl (.float x))] (by decide +kernel) rfl rfl rfl rfl ?_
  refine ev_fload_n (k0 := 0) rfl d_Float_floatToIntBits_5c35a_0 ?_
  refine Ev.z9 (ev_invS (vs := [.inl (.float x)]) lj_Float_59.1 lj_Float_59.2 (M_isNaN d hx) rfl (Nat.le_of_ble_eq_true rfl) d_Float_floatToIntBits_5c35a_1 (aft_ro ?_))
  refine ev_if_ne (tgt := 12) (by decide) d_Float_floatToIntBits_5c35a_4 (fun c => absurd rfl c) (fun _ => ?_)
  refine ev_fload_n (k0 := 0) rfl d_Float_floatToIntBits_5c35a_7 ?_
  refine ev_f2raw (Nat.le_of_ble_eq_true rfl) lf_raw d_Float_floatToIntBits_5c35a_8 ?_
  exact ev_ireturn (st := []) rfl rfl d_Float_floatToIntBits_5c35a_11 ⟨rfl, rfl⟩
end Bits

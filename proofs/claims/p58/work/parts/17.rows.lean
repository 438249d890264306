/-! Rows for the JDK's builder: calls upwards, an overriding method, clone and cast of a byte array, null. -/
theorem ev_invO {g : GL} {d : Nat} {mi : MI} {pc : Nat} {ls : List (Option RV)} {st : List RV} {M : RM} {mc ms : Nat} {Post : RO → RM → Prop} {idx n mc1 ms1 : Nat} {mi2 : MI} {vs : List RV} {Post1 : RO → RM → Prop} {ci n2 : Nat} {r : Nat × Nat} {f : Nat → RV} (hr0 : rdM g M r = some (false, ci, n2, f)) (hlk9 : LO mi.1.cls idx ci n mi2) (hM9 : Mt g d mi2 (.inr r :: vs) M mc1 ms1 Post1) (hn : vs.length = n) (hst : st.length ≤ 4) (hd : decode mi.2.1 pc = .ok (.invokevirtual idx, 3)) (hA : Aft g (d + 1) mi (pc + 3) ls st mc ms Post1 Post) : Ev g (d + 1) mi pc ls (vs.reverse ++ .inr r :: st) M (mc1 + mc) (ms1 + ms) Post := by
  intro p e R s m args below meth c H locs cells slots lsA TC TS hC hM hS hl h1 h2 h3 h4
  obtain ⟨hx, hb, hml, hown, hr, hlk, hxt, hts, hK, hf, hlo, hnm⟩ := id hC
  obtain ⟨⟨y1, y2, y3, y4, y5⟩, hh, r9, x9, ow, b0, m0, r0, e9, w1, w2, w3, w4, w5, w6, w7, z1, z2, z3⟩ := hlk9
  have hcd : cdW mi2 = .code mi2.1 mi2.2.1 mi2.2.2.1 mi2.2.2.2.1 := by unfold cdW; rw [if_pos hh]
  have hG : GoodIn lw_good (va_wsO mi.1.cls idx r9.1 ow x9 mi2.1 (wsM mi2)) := fun w hw => by
    rcases List.mem_append.mp hw with h9 | h9
    · have : w ∈ lw_good := by simp only [List.mem_cons, List.not_mem_nil, or_false] at h9; rcases h9 with rfl | rfl | rfl | rfl | rfl | rfl <;> assumption
      exact ⟨this, good_of_word (List.mem_filter.mp this).2⟩
    · exact ws_in y5 w h9
  refine aft_go (st0 := vs.reverse ++ .inr r :: st) (vx_runU (C := r9.1) (owner := ow) (x := x9) (b := adM g r) (As := vs.map (conc g)) (rest := st.map (conc g)) ⟨hx, hb, hml, hown, hts⟩ (hM9 (by omega)) (va_cwO n hts hG (by unfold wsM; rw [hcd]) rfl rfl w7 ⟨z1, z2, z3⟩ (rm_fits hf hlo y4)) ⟨pcM_blind, recv_at hM hS hK e9 hr0, fun U hU hW => by rw [← conc_ref]; exact pre_at (vs := .inr r :: vs) hM hS hK hU hW⟩ rfl (by rw [List.length_map]; exact hn) hl.1 (by rw [List.map_append, List.map_reverse]; simp only [List.map_cons, conc_ref]) (lv_room (rest_ok hst)) hd ⟨by omega, by omega⟩) hA hC hS hl h1 h2 h3 h4
theorem ev_invSU {g : GL} {d : Nat} {mi : MI} {pc : Nat} {ls : List (Option RV)} {st : List RV} {M : RM} {mc ms : Nat} {Post : RO → RM → Prop} {idx n mc1 ms1 : Nat} {mi2 : MI} {vs : List RV} {Post1 : RO → RM → Prop} {ci n2 : Nat} {r : Nat × Nat} {f : Nat → RV} {r9 : vw_C} (hc9 : vwCl[ci]? = some r9) (hr0 : rdM g M r = some (false, ci, n2, f)) (hlk9 : LSU mi.1.cls idx n mi2) (hM9 : Mt g d mi2 (.inr r :: vs) M mc1 ms1 Post1) (hn : vs.length = n) (hst : st.length ≤ 4) (hd : decode mi.2.1 pc = .ok (.invokespecial idx, 3)) (hA : Aft g (d + 1) mi (pc + 3) ls st mc ms Post1 Post) : Ev g (d + 1) mi pc ls (vs.reverse ++ .inr r :: st) M (mc1 + mc) (ms1 + ms) Post := by
  intro p e R s m args below meth c H locs cells slots lsA TC TS hC hM hS hl h1 h2 h3 h4
  obtain ⟨hx, hb, hml, hown, hr, hlk, hxt, hts, hK, hf, hlo, hnm⟩ := id hC
  obtain ⟨⟨y1, y2, y3, y4, y5⟩, hh, z1, w1, w2, w3, w4, w5⟩ := hlk9
  have hcd : cdW mi2 = .code mi2.1 mi2.2.1 mi2.2.2.1 mi2.2.2.2.1 := by unfold cdW; rw [if_pos hh]
  have hG : GoodIn lw_good (va_wsSU mi.1.cls idx mi2.1 (wsM mi2)) := fun w hw => by
    rcases List.mem_append.mp hw with h9 | h9
    · have : w ∈ lw_good := by simp only [List.mem_cons, List.not_mem_nil, or_false] at h9; rcases h9 with rfl | rfl | rfl | rfl | rfl <;> assumption
      exact ⟨this, good_of_word (List.mem_filter.mp this).2⟩
    · exact ws_in y5 w h9
  have hcls := (hK.2.1.1 ci r9 hc9).2
  refine aft_go (st0 := vs.reverse ++ .inr r :: st) (vx_runSU (C := r9.1) (cC := g.2.1.1 ci) (b := adM g r) (As := vs.map (conc g)) (rest := st.map (conc g)) hcls ⟨hx, hb, hml, hown, hts⟩ (hM9 (by omega)) (va_cwSU n hts hG (by unfold wsM; rw [hcd]) rfl rfl ⟨z1, y3⟩ (rm_fits hf hlo y4)) ⟨pcM_blind, recv_at hM hS hK hc9 hr0, fun U hU hW => by rw [← conc_ref]; exact pre_at (vs := .inr r :: vs) hM hS hK hU hW⟩ rfl (by rw [List.length_map]; exact hn) hl.1 (by rw [List.map_append, List.map_reverse]; simp only [List.map_cons, conc_ref]) (lv_room (rest_ok hst)) hd ⟨by omega, by omega⟩) hA hC hS hl h1 h2 h3 h4
theorem ev_null {g : GL} {d : Nat} {mi : MI} {pc : Nat} {ls : List (Option RV)} {st : List RV} {M : RM} {mc ms : Nat} {Post : RO → RM → Prop} (hd : decode mi.2.1 pc = .ok (.aconst_null, 1)) (k : Ev g d mi (pc + 1) ls (.inl .null :: st) M mc ms Post) : Ev g d mi pc ls st M mc ms Post := by
  intro p e R s m args below meth c H locs cells slots lsA TC TS hC hM hS hl h1 h2 h3 h4
  obtain ⟨hx, hb, hml, hown, hr, hlk, hxt, hts, hK, hf, hlo, hnm⟩ := id hC
  exact lv_null hx hb hd (k p e R s m args below meth c H locs cells slots lsA TC TS hC hM hS hl h1 h2 h3 h4)
theorem ev_castB {g : GL} {d : Nat} {mi : MI} {pc : Nat} {ls : List (Option RV)} {st : List RV} {mc ms : Nat} {Post : RO → RM → Prop} {idx o n nx : Nat} {G : RG} {f : Nat → RV} (hr0 : G o = some (true, 2, n, f)) (hlink : Cond.classLink mi.1.cls idx "[B" ∈ lw_good) (hd : decode mi.2.1 pc = .ok (.checkcast idx, 3)) (k : Ev g d mi (pc + 3) ls (.inr (0, o) :: st) (G, nx) mc ms Post) : Ev g d mi pc ls (.inr (0, o) :: st) (G, nx) mc ms Post := by
  intro p e R s m args below meth c H locs cells slots lsA TC TS hC hM hS hl h1 h2 h3 h4
  obtain ⟨hx, hb, hml, hown, hr, hlk, hxt, hts, hK, hf, hlo, hnm⟩ := id hC
  obtain ⟨ty, cell, q1, q2, q3, q4, q5, q6, q8, q7⟩ := hM.2 o _ hr0
  have h8 := q8 (Nat.le_add_right _ _)
  have h9 := q6.2 rfl (Nat.le_add_right _ _)
  exact va_castE hx hb hown (hts _ hlink) ⟨cell, q2, by rw [h8]; rfl, h9⟩ hd (k p e R s m args below meth c H locs cells slots lsA TC TS hC hM hS hl h1 h2 h3 h4)
theorem ev_clone {g : GL} {d : Nat} {mi : MI} {pc : Nat} {ls : List (Option RV)} {st : List RV} {mc ms : Nat} {Post : RO → RM → Prop} {idx o n nx : Nat} {G : RG} {f : Nat → RV} (hr0 : G o = some (true, 2, n, f)) (hst : st.length ≤ 4)
    (hlink : Cond.methodLink mi.1.cls idx ⟨"[B", "clone", "()Ljava/lang/Object;"⟩ ∈ lw_good) (hfit : ∀ i, i < n → ∃ x, f i = .inl (.int x) ∧ fits .byte (.int x) = true) (hd : decode mi.2.1 pc = .ok (.invokevirtual idx, 3))
    (k : Ev g d mi (pc + 3) ls (.inr (0, nx) :: st) (wrG G nx (true, 2, n, f), nx + 1) mc ms Post) : Ev g d mi pc ls (.inr (0, o) :: st) (G, nx) (mc + 1) (ms + n) Post := by
  intro p e R s m args below meth c H locs cells slots lsA TC TS hC hM hS hl h1 h2 h3 h4
  obtain ⟨hx, hb, hml, hown, hr, hlk, hxt, hts, hK, hf, hlo, hnm⟩ := id hC
  obtain ⟨ty, cell, q1, q2, q3, q4, q5, q6, q8, q7⟩ := hM.2 o _ hr0
  cases (show some FieldType.byte = some ty from q1)
  have h8 := q8 (Nat.le_add_right _ _)
  have h9 := q6.2 rfl (Nat.le_add_right _ _)
  have hz0 : H.size = g.2.2.2.1 + nx := hM.1
  have q9 : cell.slots.size = n := by rw [h8]; exact arrV_size _ _ _
  obtain ⟨c0, t0, f1, f2, f3⟩ := Cond.castable_spec (bad_any (A := args) rfl (hK.2.2.2.2.2.2.2.2.1 _ jc_cast rfl))
  cases h9.symm.trans f1
  have hcE : ({ cls := cell.cls, slots := cell.slots } : Cell) = cell := by rw [h8]; rfl
  have hvm0 : cell.vm = .none := by rw [h8]; rfl
  obtain ⟨-, kS, hkS, compS, hkindS⟩ := id q3
  have h10 := rest_ok (g := g) hst
  intro T hT X
  subst hT
  obtain ⟨-, kA, hkA, comp, hkind⟩ := State.isArrayOf_alike X.warmed.alike q3
  obtain ⟨vm', X', step⟩ := X.cloneArray hx hown (hts _ hlink) (hts _ jc_same) (hts _ jc_nat) (hts _ jc_inst) (hts _ jc_sel) (a := g.2.2.2.1 + o) (cell := cell) q2 (fun k h => by rw [hvm0] at h; cases h) q4 h9 f2 f3
    (fun i v hv => by
      have hk' : T.vm.classes[cell.cls]? = some kA := hkA
      have hi : i < n := by rw [← q9]; exact (Array.getElem?_eq_some_iff.mp hv).1
      obtain ⟨x, e1, e2⟩ := hfit i hi
      have e3 := q7 i hi
      rw [hv, e1] at e3
      cases e3
      simpa [State.fitsSlot, State.slotType?, hk', hkind, conc] using e2)
    (g := F0 m pc lsA (.ref (g.2.2.2.1 + o) :: st.map (conc g))) rfl (by rw [hml]; exact hl.1) (rest := st.map (conc g)) rfl (by rw [hb]; exact hd) (by omega) (by show 2 * 0 + _ + 14 ≤ _; omega) (by omega) (by rw [q9]; omega) (hloader := Vm.clonesLoader_of_array hkS hkindS)
  rw [hcE, q9] at X'
  rw [hcE] at step
  generalize hH1 : T.heap.push cell = H1 at *
  have z1 : H1.size = T.heap.size + 1 := by rw [← hH1, Array.size_push]
  have e1 : H1[T.heap.size]? = some cell := by rw [← hH1, Array.getElem?_push_size]
  have o1 : ∀ q : Nat, q < T.heap.size → H1[q]? = T.heap[q]? := fun q hq => by rw [← hH1, Array.getElem?_push, if_neg (Nat.ne_of_lt hq)]
  rw [hz0] at e1
  obtain ⟨t, a1, b1⟩ := k p e R s m args below meth c H1 locs (cells + 1) (slots + n) lsA TC TS hC (hM.more z1 o1 ⟨.byte, cell, rfl, e1, q3, q4, q5, ⟨q6.1, fun _ _ => h9⟩, fun _ => h8, q7⟩) (hS.more z1 o1) hl (by omega) (by omega) h3 h4 ((T.setVm vm').pushCell cell) (by rw [← hH1]; rfl) X'
  refine ⟨t, step t ?_, b1⟩
  rw [hz0]
  exact a1

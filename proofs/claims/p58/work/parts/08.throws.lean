
theorem ldcWString9 {p : Program} {l : Launch} {e : Env} {R : Room} {s : State} {m : MethodId} {args : Array Value} {below : List Frame} {meth : Method} {c : Code} {T : State} {locs : List Loc} {cells slots : Nat}
    (X : Stand p l e R s m args below meth c T locs cells slots) (hexec : p.tables.exec = Jvm.exec) {own text : String} {index : Nat} {a : Addr} (hown : s.vm.findClass own = some m.cls)
    (hconst : (Cond.stringRef own index text).before args s = true) (hev : (Term.string own index).eval args s none [] s = some (.ref a)) {g : JFrame} (hg : g.method = m) (hdg : decode c.code g.pc = .ok (.ldc_w index, 3)) :
    ∀ target, Steps p.tables e below (T.setTop { g with pc := g.pc + 3, stack := .ref a :: g.stack }) target → Steps p.tables e below (T.setTop g) target := by
  obtain ⟨k, cf, i, a', hk, hcf, hcp, -, hr, hev'⟩ := Cond.stringRef_spec hown hconst
  cases hev.symm.trans hev'
  obtain ⟨k', hk', he⟩ := X.warmed.alike.2.2 _ _ hk
  have hr' : k'.resolved[index]? = some (some (.string a)) := by
    rcases X.warmed.entry hk hk' index with h | ⟨h, -⟩
    · rw [h]; exact hr
    · rw [hr] at h; cases h
  intro target hrest
  subst hg
  jvm_step X.here [hexec, hdg, ldc_w.wp_string (e := e) (s := T) (f := g) X.here.top hk' (by rw [he]; exact hcf) hcp hr']
  exact hrest
theorem ev_ldcwS {g : GL} {d : Nat} {mi : MI} {pc : Nat} {ls : List (Option RV)} {st : List RV} {M : RM} {mc ms : Nat} {Post : RO → RM → Prop} {idx i : Nat} {tx : String} (hw : (mi.1.cls, idx, tx, i) ∈ rStr) (hd : decode mi.2.1 pc = .ok (.ldc_w idx, 3)) (k : Ev g d mi (pc + 3) ls (.inr (1, i) :: st) M mc ms Post) : Ev g d mi pc ls st M mc ms Post := by
  intro p e R s m args below meth c H locs cells slots lsA TC TS hC hM hS hl h1 h2 h3 h4
  obtain ⟨hx, hb, hml, hown, hr, hlk, hxt, hts, hK, hf, hlo, hnm⟩ := id hC
  have hZ := hK.2.2.2.2.1 _ hw
  intro T hT X
  obtain ⟨t, a1, b1⟩ := k p e R s m args below meth c H locs cells slots lsA TC TS hC hM hS hl h1 h2 h3 h4 T hT X
  exact ⟨t, ldcWString9 X hx hown (text := tx) (a := g.2.2.2.2.1 i) hZ.1 hZ.2 (g := F0 m pc lsA (st.map (conc g))) rfl (by rw [hb]; exact hd) t a1, b1⟩
def THW (mi : MI) (pc : Nat) (cls : String) : Prop := ∃ (ik is ic : Nat) (names : List String) (text : String) (k : Nat), Bundle.fit cls = true ∧ (∀ n ∈ names, Bundle.fit n = true) ∧ names.length ≤ 6 ∧ Cond.classLink mi.1.cls ik cls ∈ lw_good ∧ Cond.initialized cls ∈ lw_good ∧ (mi.1.cls, is, text, k) ∈ rStr ∧
  (∀ w ∈ vx_atS mi.1.cls ic cls names, w ∈ lw_good ∨ (w ∈ lw_T ∧ isBad w = true)) ∧ (∀ w ∈ Cond.classLink mi.1.cls ik cls :: Cond.initialized cls :: vx_atS mi.1.cls ic cls names, vx_ot w = true) ∧
  decode mi.2.1 pc = .ok (.new ik, 3) ∧ decode mi.2.1 (pc + 3) = .ok (.dup, 1) ∧ decode mi.2.1 (pc + 4) = .ok (.ldc_w is, 3) ∧ decode mi.2.1 (pc + 7) = .ok (.invokespecial ic, 3) ∧ decode mi.2.1 (pc + 10) = .ok (.athrow, 1)
theorem ev_throwW {g : GL} {d : Nat} {mi : MI} {pc : Nat} {ls : List (Option RV)} {st : List RV} {M : RM} {mc ms : Nat} {Post : RO → RM → Prop} {cls : String} (hth : THW mi pc cls) (hh : mi.2.2.2.2 = []) (hst : st.length ≤ 4) (h7 : 7 ≤ d) (hp : Post (.inl cls) M) : Ev g d mi pc ls st M (mc + 1) (ms + 6) Post := by
  intro p e R s m args below meth c H locs cells slots lsA TC TS hC hM hS hl h1 h2 h3 h4
  obtain ⟨hx, hb, hml, hown, hr, hlk, hxt, hts, hK, hf, hlo, hnm⟩ := id hC
  obtain ⟨ik, is, ic, names, text, k, t1, t2, t3, t4, t5, t6, t7, t8, d0, d3, d4, d6, d9⟩ := hth
  have h9 := rest_ok (g := g) hst
  refine vx_throwSW hx hb hK.1 hown t1 t2 (hts _ t4) (hts _ t5) (hK.2.2.2.2.1 _ t6) (fun w hw => ?_) t8 hK.2.2.1 hK.2.2.2.1 hS (by rw [hml]; exact hl.1) d0 d3 d4 d6 d9 (fun x hx9 => by rw [hxt, hh] at hx9; cases hx9) (by omega) (by omega) (by omega) (by omega) hlk (fun t hal hz hq => ?_) hS.2.2 (by omega) (by omega)
  · rcases t7 w hw with h | ⟨h, h'⟩
    · exact hts _ h
    · exact bad_any h' (hK.2.2.2.2.2.2.2.2.1 _ h h')
  · refine ⟨⟨M, hp, ⟨Nat.le_trans (Nat.le_of_eq hM.1.symm) hz, fun o cc hc => ?_⟩⟩, Nat.le_trans hS.1 hz, fun q hq1 hq2 => (hq q (Nat.lt_of_lt_of_le hq1 hS.1)).trans (hS.2.1 q hq1 hq2)⟩
    have h8 := hM.2 o cc hc
    exact (h8.kept (hq _ h8.lt)).moved hal
/-- a handler of the method takes E, thrown out of the call at pc -/
def CT (mi : MI) (pc : Nat) (E : String) (hpc : Nat) : Prop := ∃ (pre : List ExceptionTableEntry) (x : ExceptionTableEntry) (suf : List ExceptionTableEntry) (name : String), tableOf mi.2.2.2.2 = pre ++ x :: suf ∧
  (∀ z ∈ pre, covers z pc = false ∨ (z.catchType ≠ 0 ∧ ∃ nm : String, Cond.classLink mi.1.cls z.catchType nm ∈ lw_good ∧ (E, nm) ∈ rNc)) ∧ covers x pc = true ∧ x.catchType ≠ 0 ∧ Cond.classLink mi.1.cls x.catchType name ∈ lw_good ∧ Cond.castable E name ∈ lw_T ∧ x.handlerPc = hpc
def AftH (g : GL) (d : Nat) (mi : MI) (pc : Nat) (ls : List (Option RV)) (st : List RV) (n0 mc ms : Nat) (Post1 Post : RO → RM → Prop) : Prop :=
  (∀ v M1, Post1 (.inr v) M1 → Ev g d mi (pc + 3) ls (v.toList ++ st) M1 mc ms Post) ∧ ∀ E M1, Post1 (.inl E) M1 → ∃ hpc, CT mi pc E hpc ∧ ∀ q9 nx, M1.2 ≤ nx → nx ≤ n0 + 1000000 → Ev g d mi hpc ls [.inl (.ref q9)] (M1.1, nx) mc ms Post
theorem aft_goH {g : GL} {d : Nat} {mi : MI} {pc : Nat} {ls : List (Option RV)} {st st0 : List RV} {mc1 ms1 mc ms : Nat} {Post1 Post : RO → RM → Prop} {p : Program} {e : Env} {R : Room} {s : State} {m : MethodId} {args : Array Value} {below : List Frame} {meth : Method} {c : Code} {H : Heap} {locs : List Loc} {cells slots : Nat} {lsA : Array Slot} {TC TS : Nat} {a : Array Value}
    (hr : vx_Run p g.1 e R s m args below meth c H locs cells slots mc1 ms1 (F0 m pc lsA (st0.map (conc g))) (st.map (conc g)) (QC g Post1 a) (QX g Post1) (rA g)) {n0 : Nat} (hA : AftH g d mi pc ls st n0 mc ms Post1 Post)
    (hC : CX g mi d p R s m args meth c) (hS : va_S (rA g) s.heap H locs) (hl : lv_has lsA mi.2.2.1 (lvl g 0 ls)) (h1 : cells + (mc1 + mc) ≤ TC) (h2 : slots + (ms1 + ms) ≤ TS) (h3 : TC ≤ R.cells ∧ TC ≤ 1000000) {M : RM} (hM : MR g M s H) (hn0 : n0 = M.2) (h4 : TS ≤ R.slots) :
    W p g.1 e R s m args below meth c H locs cells slots (vx_MQ below (QC g Post) (QX g Post) args s TC TS (rA g)) (F0 m pc lsA (st0.map (conc g))) := by
  refine run_go hr hS (fun E ce q9 M1 H1 locs1 hp hM1 hS1 hce hcv hcl => ?_) (fun v M1 H1 locs1 hp hM1 hS1 => ?_)
  · obtain ⟨hpc, ⟨pre, x, suf, name, c1, c2, c3, c4, c5, c6, c7⟩, kE⟩ := hA.2 E M1 hp
    obtain ⟨hx, hb, hml, hown, hr9, hlk, hxt, hts, hK, hf, hlo, hnm⟩ := id hC
    have hsz := hM1.1
    subst c7
    refine vx_catch hown pre x suf (hxt.trans c1) (fun z hz => ?_) c3 c4 (hts _ c5) (bad_any rfl (hK.2.2.2.2.2.2.2.2.1 _ c6 rfl)) hce hcv hcl ?_
    · rcases c2 z hz with h | ⟨h, nm, hw, hn⟩
      · exact Or.inl h
      · exact Or.inr ⟨h, nm, hts _ hw, hK.2.2.2.2.2.2.2.2.2 _ hn⟩
    · intro T hT X
      have hsz2 := X.heapSize
      rw [hT] at hsz2
      have hsz3 := hM.1
      have hsz4 := hS.1
      refine kE q9 (H1.size - g.2.2.2.1) (by omega) (by omega) p e R s m args below meth c H1 locs1 (cells + mc1) (slots + ms1) lsA TC TS hC ⟨?_, hM1.2⟩ hS1 hl (by omega) (by omega) h3 h4 T hT X
      show H1.size = g.2.2.2.1 + (H1.size - g.2.2.2.1)
      omega
  · refine W.eq (g2 := F0 m (pc + 3) lsA ((v.toList ++ st).map (conc g))) (by cases v <;> rfl) (hA.1 v M1 hp p e R s m args below meth c H1 locs1 (cells + mc1) (slots + ms1) lsA TC TS hC hM1 hS1 hl (by omega) (by omega) h3 h4)
theorem ev_astoreR {g : GL} {d : Nat} {mi : MI} {pc : Nat} {ls : List (Option RV)} {st : List RV} {M : RM} {mc ms : Nat} {Post : RO → RM → Prop} {i : Nat} {q : Nat} (ok : okst ls i = true) (hn : i < mi.2.2.1) (hd : decode mi.2.1 pc = .ok (.astore i, 2)) (k : Ev g d mi (pc + 2) (ls.set i (some (.inl (.ref q)))) st M mc ms Post) : Ev g d mi pc ls (.inl (.ref q) :: st) M mc ms Post := by
  intro p e R s m args below meth c H locs cells slots lsA TC TS hC hM hS hl h1 h2 h3 h4
  obtain ⟨hx, hb, hml, hown, hr, hlk, hxt, hts, hK, hf, hlo, hnm⟩ := id hC
  exact lv_astore hx hb hd hl hn rfl (fun ls9 hl9 => k p e R s m args below meth c H locs cells slots ls9 TC TS hC hM hS (lvh_store (v := .inl (.ref q)) ok hl9) h1 h2 h3 h4)
theorem ev_astoreR_n {g : GL} {d : Nat} {mi : MI} {pc : Nat} {ls : List (Option RV)} {st : List RV} {M : RM} {mc ms : Nat} {Post : RO → RM → Prop} {k0 : Fin 4} {q : Nat} (ok : okst ls (k0 : Nat) = true) (hn : (k0 : Nat) < mi.2.2.1) (hd : decode mi.2.1 pc = .ok (.astore_n k0, 1)) (k : Ev g d mi (pc + 1) (ls.set (k0 : Nat) (some (.inl (.ref q)))) st M mc ms Post) : Ev g d mi pc ls (.inl (.ref q) :: st) M mc ms Post := by
  intro p e R s m args below meth c H locs cells slots lsA TC TS hC hM hS hl h1 h2 h3 h4
  obtain ⟨hx, hb, hml, hown, hr, hlk, hxt, hts, hK, hf, hlo, hnm⟩ := id hC
  exact lv_astore_n hx hb hd rfl hl hn rfl (fun ls9 hl9 => k p e R s m args below meth c H locs cells slots ls9 TC TS hC hM hS (lvh_store (v := .inl (.ref q)) ok hl9) h1 h2 h3 h4)
theorem ev_invVH {g : GL} {d : Nat} {mi : MI} {pc : Nat} {ls : List (Option RV)} {st : List RV} {M : RM} {mc ms : Nat} {Post : RO → RM → Prop} {idx n mc1 ms1 : Nat} {mi2 : MI} {vs : List RV} {Post1 : RO → RM → Prop} {ci n2 : Nat} {r : Nat × Nat} {f : Nat → RV} (hr0 : rdM g M r = some (false, ci, n2, f)) (hlk9 : LV mi.1.cls idx ci n mi2) (hM9 : Mt g d mi2 (.inr r :: vs) M mc1 ms1 Post1) (hn : vs.length = n) (hst : st.length ≤ 4) (hd : decode mi.2.1 pc = .ok (.invokevirtual idx, 3)) (hA : AftH g (d + 1) mi pc ls st M.2 mc ms Post1 Post) : Ev g (d + 1) mi pc ls (vs.reverse ++ .inr r :: st) M (mc1 + mc) (ms1 + ms) Post := by
  intro p e R s m args below meth c H locs cells slots lsA TC TS hC hM hS hl h1 h2 h3 h4
  obtain ⟨hx, hb, hml, hown, hr, hlk, hxt, hts, hK, hf, hlo, hnm⟩ := id hC
  obtain ⟨⟨y1, y2, y3, y4, y5⟩, hh, ⟨r9, e9, e8⟩, w1, w2, w3, w4⟩ := hlk9
  have hcd : cdW mi2 = .code mi2.1 mi2.2.1 mi2.2.2.1 mi2.2.2.2.1 := by unfold cdW; rw [if_pos hh]
  have hG : GoodIn lw_good (wsV mi.1.cls idx mi2.1.cls mi2.1 (wsM mi2)) := fun w hw => by
    rcases List.mem_append.mp hw with h9 | h9
    · have : w ∈ lw_good := by simp only [List.mem_cons, List.not_mem_nil, or_false] at h9; rcases h9 with rfl | rfl | rfl | rfl <;> assumption
      exact ⟨this, good_of_word (List.mem_filter.mp this).2⟩
    · exact ws_in y5 w h9
  refine aft_goH (st0 := vs.reverse ++ .inr r :: st) (vx_runV (C := mi2.1.cls) (b := adM g r) (As := vs.map (conc g)) (rest := st.map (conc g)) ⟨hx, hb, hml, hown, hts⟩ (hM9 (by omega)) (cwV n hts hG (by unfold wsM; rw [hcd]) rfl rfl ⟨rfl, y1, y2, y3⟩ (rm_fits hf hlo y4)) ⟨pcM_blind, by rw [← e8]; exact recv_at hM hS hK e9 hr0, fun U hU hW => by rw [← conc_ref]; exact pre_at (vs := .inr r :: vs) hM hS hK hU hW⟩ rfl (by rw [List.length_map]; exact hn) hl.1 (by rw [List.map_append, List.map_reverse]; simp only [List.map_cons, conc_ref]) (lv_room (rest_ok hst)) hd ⟨by omega, by omega⟩) hA hC hS hl h1 h2 h3 hM rfl h4


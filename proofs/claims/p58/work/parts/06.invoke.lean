
/-- the callee's words are among the caller's -/
theorem ws_in {mi2 : MI} (h : cdW mi2 ∈ lw_good) : GoodIn lw_good (wsM mi2) := by
  intro w hw
  have h1 : w ∈ lw_good := by
    rcases List.mem_cons.mp hw with h2 | h2
    · rw [h2]; exact h
    · exact h2
  exact ⟨h1, good_of_word (List.mem_filter.mp h1).2⟩
theorem rm_fits {d maxL mc ms : Nat} {R : Room} (hf : 3 + (d + 1) ≤ R.frames) (hlo : 150 + 35 * (d + 1) ≤ R.locals) (h : maxL ≤ 16) : (rmD d mc ms).frames + 1 ≤ R.frames ∧ 8 + (maxL + 11) + (rmD d mc ms).locals ≤ R.locals := by
  show 3 + d + 1 ≤ R.frames ∧ 8 + (maxL + 11) + (150 + 35 * d) ≤ R.locals
  omega
theorem rest_ok {g : GL} {st : List RV} (h : st.length ≤ 4) : (List.map (fun v => v.category) (st.map (conc g))).sum ≤ 8 := by
  have h1 : ∀ l : List Value, (l.map fun v => v.category).sum ≤ 2 * l.length := by
    intro l
    induction l with
    | nil => simp
    | cons a t ih =>
      simp only [List.map_cons, List.sum_cons, List.length_cons]
      have : a.category ≤ 2 := by cases a <;> simp [Value.category]
      omega
  have h2 := h1 (st.map (conc g))
  simp only [List.length_map] at h2
  omega
theorem pre_at {g : GL} {M : RM} {s U : State} {H : Heap} {locs : List Loc} {vs : List RV} (hM : MR g M s H) (hS : va_S (rA g) s.heap H locs) (hK : KU g s s.heap) (hU : U.heap = H) (hW : s.WarmedH U.vm) : pcM g vs M (vs.map (conc g)).toArray U :=
  ⟨rfl, by rw [hU]; exact KU.warm hW hK hS.1 hS.2.1, by rw [hU]; exact hM.moved hW.alike⟩
/-- what the heap says of the object that is called -/
theorem recv_at {g : GL} {M : RM} {s : State} {H : Heap} {locs : List Loc} {r : Nat × Nat} {ci n : Nat} {f : Nat → RV} {r9 : vw_C} (hM : MR g M s H) (hS : va_S (rA g) s.heap H locs) (hK : KU g s s.heap) (hc : vwCl[ci]? = some r9) (h : rdM g M r = some (false, ci, n, f)) : ∃ cellB : Cell, H[adM g r]? = some cellB ∧ cellB.vm.isStatics = false ∧ s.vm.findClass r9.1 = some cellB.cls := by
  obtain ⟨r8, cell, q1, q2, q3, q4, q5, -⟩ := cell_of hM hS hK h
  cases hc.symm.trans q1
  exact ⟨cell, q2, q5, by rw [q3]; exact (hK.2.1.1 ci _ hc).2.1⟩
def hd0 (mi2 : MI) (n : Nat) : Prop := mi2.1.cls ≠ "java/lang/invoke/MethodHandle" ∧ mi2.1.cls ≠ "java/lang/invoke/VarHandle" ∧ (parseMethodDescriptor mi2.1.desc).map (fun d => d.parameters.length) = some n ∧ mi2.2.2.1 ≤ 16 ∧ cdW mi2 ∈ lw_good
/-- an entry of a class's pool names a method: virtual, inherited, static, constructor; by the nest's host -/
def LV (own : String) (idx ci n : Nat) (mi2 : MI) : Prop := hd0 mi2 n ∧ mi2.2.2.2.2 = [] ∧ (∃ r9, vwCl[ci]? = some r9 ∧ r9.1 = mi2.1.cls) ∧ Cond.methodLink own idx mi2.1 ∈ lw_good ∧ Cond.instanceMethod mi2.1 ∈ lw_good ∧ Cond.selects mi2.1.cls mi2.1 mi2.1 ∈ lw_good ∧ Cond.initialized mi2.1.cls ∈ lw_good
def LU (own : String) (idx ci n : Nat) (mi2 : MI) : Prop := hd0 mi2 n ∧ mi2.2.2.2.2 = [] ∧ ∃ (r9 : vw_C) (x : MethodName), vwCl[ci]? = some r9 ∧ mi2.1 = ⟨mi2.1.cls, x.name, x.desc⟩ ∧ Cond.methodLink own idx x ∈ lw_good ∧ Cond.sameMethod x.cls mi2.1.cls x.name x.desc ∈ lw_good ∧ Cond.selects r9.1 x mi2.1 ∈ lw_good ∧ Cond.instanceMethod mi2.1 ∈ lw_good ∧ Cond.initialized mi2.1.cls ∈ lw_good ∧ (parseMethodDescriptor x.desc).map (fun d => d.parameters.length) = some n
def LST (own : String) (idx n : Nat) (mi2 : MI) : Prop := hd0 mi2 n ∧ Cond.methodLink own idx mi2.1 ∈ lw_good ∧ Cond.static mi2.1 ∈ lw_good ∧ Cond.initialized mi2.1.cls ∈ lw_good
def LSN (own : String) (idx n : Nat) (mi2 : MI) : Prop := hd0 mi2 n ∧ mi2.2.2.2.2 = [] ∧ ∃ host, Cond.methodLinkNest own idx mi2.1 host ∈ lw_T ∧ Cond.static mi2.1 ∈ lw_good ∧ Cond.initialized mi2.1.cls ∈ lw_good
def LI (own : String) (idx n : Nat) (mi2 : MI) : Prop := hd0 mi2 n ∧ mi2.2.2.2.2 = [] ∧ mi2.2.2.2.1 = none ∧ mi2.1.name = "<init>" ∧ Cond.methodLink own idx mi2.1 ∈ lw_good ∧ Cond.instanceMethod mi2.1 ∈ lw_good ∧ Cond.initialized mi2.1.cls ∈ lw_good
def LIN (own : String) (idx n : Nat) (mi2 : MI) : Prop := hd0 mi2 n ∧ mi2.2.2.2.2 = [] ∧ mi2.2.2.2.1 = none ∧ mi2.1.name = "<init>" ∧ ∃ host, Cond.methodLinkNest own idx mi2.1 host ∈ lw_T ∧ Cond.instanceMethod mi2.1 ∈ lw_good ∧ Cond.initialized mi2.1.cls ∈ lw_good
/-- what a caller without handlers makes of the end of a call -/
def Aft (g : GL) (d : Nat) (mi : MI) (pc : Nat) (ls : List (Option RV)) (st : List RV) (mc ms : Nat) (Post1 Post : RO → RM → Prop) : Prop :=
  (∀ v M1, Post1 (.inr v) M1 → Ev g d mi pc ls (v.toList ++ st) M1 mc ms Post) ∧ ∀ E M1, Post1 (.inl E) M1 → mi.2.2.2.2 = [] ∧ Post (.inl E) M1
theorem aft_go {g : GL} {d : Nat} {mi : MI} {pc : Nat} {ls : List (Option RV)} {st st0 : List RV} {mc1 ms1 mc ms : Nat} {Post1 Post : RO → RM → Prop} {p : Program} {e : Env} {R : Room} {s : State} {m : MethodId} {args : Array Value} {below : List Frame} {meth : Method} {c : Code} {H : Heap} {locs : List Loc} {cells slots : Nat} {lsA : Array Slot} {TC TS : Nat} {a : Array Value}
    (hr : vx_Run p g.1 e R s m args below meth c H locs cells slots mc1 ms1 (F0 m pc lsA (st0.map (conc g))) (st.map (conc g)) (QC g Post1 a) (QX g Post1) (rA g)) (hA : Aft g d mi (pc + 3) ls st mc ms Post1 Post)
    (hC : CX g mi d p R s m args meth c) (hS : va_S (rA g) s.heap H locs) (hl : lv_has lsA mi.2.2.1 (lvl g 0 ls)) (h1 : cells + (mc1 + mc) ≤ TC) (h2 : slots + (ms1 + ms) ≤ TS) (h3 : TC ≤ R.cells ∧ TC ≤ 1000000) (h4 : TS ≤ R.slots) :
    W p g.1 e R s m args below meth c H locs cells slots (vx_MQ below (QC g Post) (QX g Post) args s TC TS (rA g)) (F0 m pc lsA (st0.map (conc g))) := by
  refine run_go hr hS (fun E ce q9 M1 H1 locs1 hp hM1 hS1 hce hcv hcl => ?_) (fun v M1 H1 locs1 hp hM1 hS1 => ?_)
  · obtain ⟨hh, hP⟩ := hA.2 E M1 hp
    obtain ⟨hx, hb, hml, hown, hr9, hlk, hxt, hts, hK, hf, hlo, hnm⟩ := id hC
    refine vx_out (fun x hx9 => by rw [hxt, hh] at hx9; cases hx9) hlk hce hcv hcl (fun t ht hal => ⟨⟨M1, hP, by rw [ht]; exact hM1.moved hal⟩, hS1.F ht⟩) hS1.2.2 (by omega) (by omega)
  · refine W.eq (g2 := F0 m (pc + 3) lsA ((v.toList ++ st).map (conc g))) (by cases v <;> rfl) (hA.1 v M1 hp p e R s m args below meth c H1 locs1 (cells + mc1) (slots + ms1) lsA TC TS hC hM1 hS1 hl (by omega) (by omega) h3 h4)
theorem ev_invV {g : GL} {d : Nat} {mi : MI} {pc : Nat} {ls : List (Option RV)} {st : List RV} {M : RM} {mc ms : Nat} {Post : RO → RM → Prop} {idx n mc1 ms1 : Nat} {mi2 : MI} {vs : List RV} {Post1 : RO → RM → Prop} {ci n2 : Nat} {r : Nat × Nat} {f : Nat → RV} (hr0 : rdM g M r = some (false, ci, n2, f)) (hlk9 : LV mi.1.cls idx ci n mi2) (hM9 : Mt g d mi2 (.inr r :: vs) M mc1 ms1 Post1) (hn : vs.length = n) (hst : st.length ≤ 4) (hd : decode mi.2.1 pc = .ok (.invokevirtual idx, 3)) (hA : Aft g (d + 1) mi (pc + 3) ls st mc ms Post1 Post) : Ev g (d + 1) mi pc ls (vs.reverse ++ .inr r :: st) M (mc1 + mc) (ms1 + ms) Post := by
  intro p e R s m args below meth c H locs cells slots lsA TC TS hC hM hS hl h1 h2 h3 h4
  obtain ⟨hx, hb, hml, hown, hr, hlk, hxt, hts, hK, hf, hlo, hnm⟩ := id hC
  obtain ⟨⟨y1, y2, y3, y4, y5⟩, hh, ⟨r9, e9, e8⟩, w1, w2, w3, w4⟩ := hlk9
  have hcd : cdW mi2 = .code mi2.1 mi2.2.1 mi2.2.2.1 mi2.2.2.2.1 := by unfold cdW; rw [if_pos hh]
  have hG : GoodIn lw_good (wsV mi.1.cls idx mi2.1.cls mi2.1 (wsM mi2)) := fun w hw => by
    rcases List.mem_append.mp hw with h9 | h9
    · have : w ∈ lw_good := by simp only [List.mem_cons, List.not_mem_nil, or_false] at h9; rcases h9 with rfl | rfl | rfl | rfl <;> assumption
      exact ⟨this, good_of_word (List.mem_filter.mp this).2⟩
    · exact ws_in y5 w h9
  refine aft_go (st0 := vs.reverse ++ .inr r :: st) (vx_runV (C := mi2.1.cls) (b := adM g r) (As := vs.map (conc g)) (rest := st.map (conc g)) ⟨hx, hb, hml, hown, hts⟩ (hM9 (by omega)) (cwV n hts hG (by unfold wsM; rw [hcd]) rfl rfl ⟨rfl, y1, y2, y3⟩ (rm_fits hf hlo y4)) ⟨pcM_blind, by rw [← e8]; exact recv_at hM hS hK e9 hr0, fun U hU hW => by rw [← conc_ref]; exact pre_at (vs := .inr r :: vs) hM hS hK hU hW⟩ rfl (by rw [List.length_map]; exact hn) hl.1 (by rw [List.map_append, List.map_reverse]; simp only [List.map_cons, conc_ref]) (lv_room (rest_ok hst)) hd ⟨by omega, by omega⟩) hA hC hS hl h1 h2 h3 h4

theorem ev_invU {g : GL} {d : Nat} {mi : MI} {pc : Nat} {ls : List (Option RV)} {st : List RV} {M : RM} {mc ms : Nat} {Post : RO → RM → Prop} {idx n mc1 ms1 : Nat} {mi2 : MI} {vs : List RV} {Post1 : RO → RM → Prop} {ci n2 : Nat} {r : Nat × Nat} {f : Nat → RV} (hr0 : rdM g M r = some (false, ci, n2, f)) (hlk9 : LU mi.1.cls idx ci n mi2) (hM9 : Mt g d mi2 (.inr r :: vs) M mc1 ms1 Post1) (hn : vs.length = n) (hst : st.length ≤ 4) (hd : decode mi.2.1 pc = .ok (.invokevirtual idx, 3)) (hA : Aft g (d + 1) mi (pc + 3) ls st mc ms Post1 Post) : Ev g (d + 1) mi pc ls (vs.reverse ++ .inr r :: st) M (mc1 + mc) (ms1 + ms) Post := by
  intro p e R s m args below meth c H locs cells slots lsA TC TS hC hM hS hl h1 h2 h3 h4
  obtain ⟨hx, hb, hml, hown, hr, hlk, hxt, hts, hK, hf, hlo, hnm⟩ := id hC
  obtain ⟨⟨y1, y2, y3, y4, y5⟩, hh, r9, x9, e9, e8, w1, w2, w3, w4, w5, y6⟩ := hlk9
  have hcd : cdW mi2 = .code mi2.1 mi2.2.1 mi2.2.2.1 mi2.2.2.2.1 := by unfold cdW; rw [if_pos hh]
  have hG : GoodIn lw_good (va_wsU mi.1.cls idx r9.1 mi2.1.cls x9 mi2.1 (wsM mi2)) := fun w hw => by
    rcases List.mem_append.mp hw with h9 | h9
    · have : w ∈ lw_good := by simp only [List.mem_cons, List.not_mem_nil, or_false] at h9; rcases h9 with rfl | rfl | rfl | rfl | rfl <;> assumption
      exact ⟨this, good_of_word (List.mem_filter.mp this).2⟩
    · exact ws_in y5 w h9
  refine aft_go (st0 := vs.reverse ++ .inr r :: st) (vx_runU (C := r9.1) (owner := mi2.1.cls) (x := x9) (b := adM g r) (As := vs.map (conc g)) (rest := st.map (conc g)) ⟨hx, hb, hml, hown, hts⟩ (hM9 (by omega)) (va_cwU n hts hG (by unfold wsM; rw [hcd]) rfl rfl e8 ⟨y1, y2, y6⟩ (rm_fits hf hlo y4)) ⟨pcM_blind, recv_at hM hS hK e9 hr0, fun U hU hW => by rw [← conc_ref]; exact pre_at (vs := .inr r :: vs) hM hS hK hU hW⟩ rfl (by rw [List.length_map]; exact hn) hl.1 (by rw [List.map_append, List.map_reverse]; simp only [List.map_cons, conc_ref]) (lv_room (rest_ok hst)) hd ⟨by omega, by omega⟩) hA hC hS hl h1 h2 h3 h4

theorem ev_invS {g : GL} {d : Nat} {mi : MI} {pc : Nat} {ls : List (Option RV)} {st : List RV} {M : RM} {mc ms : Nat} {Post : RO → RM → Prop} {idx n mc1 ms1 : Nat} {mi2 : MI} {vs : List RV} {Post1 : RO → RM → Prop} (hh : mi2.2.2.2.2 = []) (hlk9 : LST mi.1.cls idx n mi2) (hM9 : Mt g d mi2 (vs) M mc1 ms1 Post1) (hn : vs.length = n) (hst : st.length ≤ 4) (hd : decode mi.2.1 pc = .ok (.invokestatic idx, 3)) (hA : Aft g (d + 1) mi (pc + 3) ls st mc ms Post1 Post) : Ev g (d + 1) mi pc ls (vs.reverse ++ st) M (mc1 + mc) (ms1 + ms) Post := by
  intro p e R s m args below meth c H locs cells slots lsA TC TS hC hM hS hl h1 h2 h3 h4
  obtain ⟨hx, hb, hml, hown, hr, hlk, hxt, hts, hK, hf, hlo, hnm⟩ := id hC
  obtain ⟨⟨y1, y2, y3, y4, y5⟩, w1, w2, w3⟩ := hlk9
  have hG : GoodIn lw_good (va_wsS mi.1.cls idx mi2.1 (wsM mi2)) := fun w hw => by
    rcases List.mem_append.mp hw with h9 | h9
    · have : w ∈ lw_good := by simp only [List.mem_cons, List.not_mem_nil, or_false] at h9; rcases h9 with rfl | rfl | rfl <;> assumption
      exact ⟨this, good_of_word (List.mem_filter.mp this).2⟩
    · exact ws_in y5 w h9
  have hcd : cdW mi2 = .code mi2.1 mi2.2.1 mi2.2.2.1 mi2.2.2.2.1 := by unfold cdW; rw [if_pos hh]
  refine aft_go (st0 := vs.reverse ++ st) (vx_runS (As := vs.map (conc g)) (rest := st.map (conc g)) ⟨hx, hb, hml, hown, hts⟩ (hM9 (by omega)) (va_cwS n hts hG (by unfold wsM; rw [hcd]) rfl rfl ⟨y1, y2, y3⟩ (rm_fits hf hlo y4)) ⟨pcM_blind, fun U hU hW => pre_at hM hS hK hU hW⟩ rfl (by rw [List.length_map]; exact hn) hl.1 (by rw [List.map_append, List.map_reverse]) (lv_room (rest_ok hst)) hd ⟨by omega, by omega⟩) hA hC hS hl h1 h2 h3 h4

theorem ev_invSH {g : GL} {d : Nat} {mi : MI} {pc : Nat} {ls : List (Option RV)} {st : List RV} {M : RM} {mc ms : Nat} {Post : RO → RM → Prop} {idx n mc1 ms1 : Nat} {mi2 : MI} {vs : List RV} {Post1 : RO → RM → Prop} (hh : ¬ mi2.2.2.2.2 = []) (hlk9 : LST mi.1.cls idx n mi2) (hM9 : Mt g d mi2 (vs) M mc1 ms1 Post1) (hn : vs.length = n) (hst : st.length ≤ 4) (hd : decode mi.2.1 pc = .ok (.invokestatic idx, 3)) (hA : Aft g (d + 1) mi (pc + 3) ls st mc ms Post1 Post) : Ev g (d + 1) mi pc ls (vs.reverse ++ st) M (mc1 + mc) (ms1 + ms) Post := by
  intro p e R s m args below meth c H locs cells slots lsA TC TS hC hM hS hl h1 h2 h3 h4
  obtain ⟨hx, hb, hml, hown, hr, hlk, hxt, hts, hK, hf, hlo, hnm⟩ := id hC
  obtain ⟨⟨y1, y2, y3, y4, y5⟩, w1, w2, w3⟩ := hlk9
  have hG : GoodIn lw_good (va_wsS mi.1.cls idx mi2.1 (wsM mi2)) := fun w hw => by
    rcases List.mem_append.mp hw with h9 | h9
    · have : w ∈ lw_good := by simp only [List.mem_cons, List.not_mem_nil, or_false] at h9; rcases h9 with rfl | rfl | rfl <;> assumption
      exact ⟨this, good_of_word (List.mem_filter.mp this).2⟩
    · exact ws_in y5 w h9
  have hcd : cdW mi2 = .codeWith mi2.1 mi2.2.1 mi2.2.2.1 mi2.2.2.2.1 mi2.2.2.2.2 := by unfold cdW; rw [if_neg hh]
  refine aft_go (st0 := vs.reverse ++ st) (vx_runSX (As := vs.map (conc g)) (rest := st.map (conc g)) ⟨hx, hb, hml, hown, hts⟩ (hM9 (by omega)) (vx_cwSW n hts hG (by unfold wsM; rw [hcd]) rfl rfl ⟨y1, y2, y3⟩ (rm_fits hf hlo y4)) ⟨pcM_blind, fun U hU hW => pre_at hM hS hK hU hW⟩ rfl (by rw [List.length_map]; exact hn) hl.1 (by rw [List.map_append, List.map_reverse]) (lv_room (rest_ok hst)) hd ⟨by omega, by omega⟩) hA hC hS hl h1 h2 h3 h4

theorem ev_invSN {g : GL} {d : Nat} {mi : MI} {pc : Nat} {ls : List (Option RV)} {st : List RV} {M : RM} {mc ms : Nat} {Post : RO → RM → Prop} {idx n mc1 ms1 : Nat} {mi2 : MI} {vs : List RV} {Post1 : RO → RM → Prop}  (hlk9 : LSN mi.1.cls idx n mi2) (hM9 : Mt g d mi2 (vs) M mc1 ms1 Post1) (hn : vs.length = n) (hst : st.length ≤ 4) (hd : decode mi.2.1 pc = .ok (.invokestatic idx, 3)) (hA : Aft g (d + 1) mi (pc + 3) ls st mc ms Post1 Post) : Ev g (d + 1) mi pc ls (vs.reverse ++ st) M (mc1 + mc) (ms1 + ms) Post := by
  intro p e R s m args below meth c H locs cells slots lsA TC TS hC hM hS hl h1 h2 h3 h4
  obtain ⟨hx, hb, hml, hown, hr, hlk, hxt, hts, hK, hf, hlo, hnm⟩ := id hC
  obtain ⟨⟨y1, y2, y3, y4, y5⟩, hh, host, w1, w2, w3⟩ := hlk9
  have hcd : cdW mi2 = .code mi2.1 mi2.2.1 mi2.2.2.1 mi2.2.2.2.1 := by unfold cdW; rw [if_pos hh]
  refine aft_go (st0 := vs.reverse ++ st) (vx_runSN (As := vs.map (conc g)) (rest := st.map (conc g)) ⟨hx, hb, hml, hown, hts⟩ (hM9 (by omega)) ⟨va_cnB n hts (ws_in y5) (by unfold wsM; rw [hcd]) rfl rfl (va_Nw.of rfl (hK.2.2.2.2.2.2.2.2.1 _ w1 rfl)) (hts _ w3) ⟨y1, y2, y3⟩ (rm_fits hf hlo y4), hts _ w2, trivial⟩ ⟨pcM_blind, fun U hU hW => pre_at hM hS hK hU hW⟩ rfl (by rw [List.length_map]; exact hn) hl.1 (by rw [List.map_append, List.map_reverse]) (lv_room (rest_ok hst)) hd ⟨by omega, by omega⟩) hA hC hS hl h1 h2 h3 h4

theorem ev_invI {g : GL} {d : Nat} {mi : MI} {pc : Nat} {ls : List (Option RV)} {st : List RV} {M : RM} {mc ms : Nat} {Post : RO → RM → Prop} {idx n mc1 ms1 : Nat} {mi2 : MI} {vs : List RV} {Post1 : RO → RM → Prop} {r : Nat × Nat} (hlk9 : LI mi.1.cls idx n mi2) (hM9 : Mt g d mi2 (.inr r :: vs) M mc1 ms1 Post1) (hn : vs.length = n) (hst : st.length ≤ 4) (hd : decode mi.2.1 pc = .ok (.invokespecial idx, 3)) (hA : Aft g (d + 1) mi (pc + 3) ls st mc ms Post1 Post) : Ev g (d + 1) mi pc ls (vs.reverse ++ .inr r :: st) M (mc1 + mc) (ms1 + ms) Post := by
  intro p e R s m args below meth c H locs cells slots lsA TC TS hC hM hS hl h1 h2 h3 h4
  obtain ⟨hx, hb, hml, hown, hr, hlk, hxt, hts, hK, hf, hlo, hnm⟩ := id hC
  obtain ⟨⟨y1, y2, y3, y4, y5⟩, hh, hn0, hnm2, w1, w2, w3⟩ := hlk9
  have hcd : cdW mi2 = .code mi2.1 mi2.2.1 mi2.2.2.1 none := by unfold cdW; rw [if_pos hh, hn0]
  refine aft_go (st0 := vs.reverse ++ .inr r :: st) (vx_runI (b := adM g r) (As := vs.map (conc g)) (rest := st.map (conc g)) ⟨hx, hb, hml, hown, hts⟩ (hM9 (by omega)) (cwI n hts (ws_in y5) (by unfold wsM; rw [hcd]) rfl rfl (hts _ w3) (hts _ w1) (hts _ w2) hnm2 ⟨y1, y2, y3⟩ (rm_fits hf hlo y4)) ⟨pcM_blind, fun U hU hW => by rw [← conc_ref]; exact pre_at (vs := .inr r :: vs) hM hS hK hU hW⟩ rfl (by rw [List.length_map]; exact hn) hl.1 (by rw [List.map_append, List.map_reverse]; simp only [List.map_cons, conc_ref]) (lv_room (rest_ok hst)) hd ⟨by omega, by omega⟩) hA hC hS hl h1 h2 h3 h4

theorem ev_invIN {g : GL} {d : Nat} {mi : MI} {pc : Nat} {ls : List (Option RV)} {st : List RV} {M : RM} {mc ms : Nat} {Post : RO → RM → Prop} {idx n mc1 ms1 : Nat} {mi2 : MI} {vs : List RV} {Post1 : RO → RM → Prop} {r : Nat × Nat} (hlk9 : LIN mi.1.cls idx n mi2) (hM9 : Mt g d mi2 (.inr r :: vs) M mc1 ms1 Post1) (hn : vs.length = n) (hst : st.length ≤ 4) (hd : decode mi.2.1 pc = .ok (.invokespecial idx, 3)) (hA : Aft g (d + 1) mi (pc + 3) ls st mc ms Post1 Post) : Ev g (d + 1) mi pc ls (vs.reverse ++ .inr r :: st) M (mc1 + mc) (ms1 + ms) Post := by
  intro p e R s m args below meth c H locs cells slots lsA TC TS hC hM hS hl h1 h2 h3 h4
  obtain ⟨hx, hb, hml, hown, hr, hlk, hxt, hts, hK, hf, hlo, hnm⟩ := id hC
  obtain ⟨⟨y1, y2, y3, y4, y5⟩, hh, hn0, hnm2, host, w1, w2, w3⟩ := hlk9
  have hcd : cdW mi2 = .code mi2.1 mi2.2.1 mi2.2.2.1 none := by unfold cdW; rw [if_pos hh, hn0]
  refine aft_go (st0 := vs.reverse ++ .inr r :: st) (vx_runIN (b := adM g r) (As := vs.map (conc g)) (rest := st.map (conc g)) ⟨hx, hb, hml, hown, hts⟩ (hM9 (by omega)) ⟨va_cnB n hts (ws_in y5) (by unfold wsM; rw [hcd]) rfl rfl (va_Nw.of rfl (hK.2.2.2.2.2.2.2.2.1 _ w1 rfl)) (hts _ w3) ⟨y1, y2, y3⟩ (rm_fits hf hlo y4), hnm2, hts _ w2⟩ ⟨pcM_blind, fun U hU hW => by rw [← conc_ref]; exact pre_at (vs := .inr r :: vs) hM hS hK hU hW⟩ rfl (by rw [List.length_map]; exact hn) hl.1 (by rw [List.map_append, List.map_reverse]; simp only [List.map_cons, conc_ref]) (lv_room (rest_ok hst)) hd ⟨by omega, by omega⟩) hA hC hS hl h1 h2 h3 h4

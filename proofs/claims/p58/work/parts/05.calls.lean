
theorem MR.moved {g : GL} {M : RM} {u U : State} {H : Heap} (hvm : u.vm.Alike U.vm) (h : MR g M u H) : MR g M U H := ⟨h.1, fun o c hc => (h.2 o c hc).moved hvm⟩
theorem ML.moved {g : GL} {M : RM} {u U : State} {H : Heap} (hvm : u.vm.Alike U.vm) (h : ML g M u H) : ML g M U H := ⟨h.1, fun o c hc => (h.2 o c hc).moved hvm⟩
theorem MR.le {g : GL} {M : RM} {u : State} {H : Heap} (h : MR g M u H) : ML g M u H := ⟨Nat.le_of_eq h.1.symm, h.2⟩
theorem bad_warm {w : Cond} {s U : State} (hb : isBad w = true) (hW : s.WarmedH U.vm) (h : w.before #[] s = true) : w.before #[] U = true := by
  cases w <;> first
    | (simp [isBad] at hb; done)
    | exact va_Nw.warmM hW h
    | exact va_tabs rfl (rfl : (s.setVm U.vm).vm = U.vm) (Cond.fieldLinkNest_warmed (args := #[]) hW h)
    | exact va_Nw.warmC hW h
    | exact va_Nw.warmD hW h
    | (rename_i t; cases t <;> first | (simp [isBad] at hb; done) | exact va_AO.moved hW.alike h)
theorem KU.warm {g : GL} {s U : State} {H H1 : Heap} (hW : s.WarmedH U.vm) (h : KU g s H) (hz : H.size ≤ H1.size) (hq : ∀ q, q < H.size → ¬ rA g q → H1[q]? = H[q]?) : KU g U H1 := by
  obtain ⟨q1, q2, q3, q4, q5, q6, q7, q8, q9, q10⟩ := h
  exact ⟨q1, q2.moved hW.alike, (q3.kept hq).moved hW.alike, (q4.kept hq).moved hW.alike, fun q h => (q5 q h).warm hW, ⟨fun q h => ((q6.1 q h).kept hq).moved hW.alike, (q6.2.kept hq).moved hW.alike⟩,
    fun i c hc => ⟨(q7 i c hc).1, ((q7 i c hc).2.kept (hq _ (q7 i c hc).2.lt (by have := (q7 i c hc).1; show ¬ g.2.2.2.1 ≤ _; omega))).moved hW.alike⟩, Nat.le_trans q8 hz, fun w hw hwb => bad_warm hwb hW (q9 w hw hwb), fun q h => (q10 q h).moved hW.alike⟩
-- returns
theorem ret_world {g : GL} {M : RM} {s t : State} {H : Heap} {locs : List Loc} (hM : MR g M s H) (hS : va_S (rA g) s.heap H locs) (ht : t.heap = H) (hW : s.WarmedH t.vm) : MR g M t t.heap ∧ va_F (rA g) s t := ⟨by rw [ht]; exact hM.moved hW.alike, hS.F ht⟩
theorem ev_ireturn {g : GL} {d : Nat} {mi : MI} {pc : Nat} {ls : List (Option RV)} {st : List RV} {M : RM} {mc ms : Nat} {Post : RO → RM → Prop} {x : Int32} {ty : FieldType} (hr0 : mi.2.2.2.1 = some ty) (hn0 : narrow ty (.int x) = .int x) (hd : decode mi.2.1 pc = .ok (.ireturn, 1)) (hp : Post (.inr (some (.inl (.int x)))) M) : Ev g d mi pc ls [.inl (.int x)] M mc ms Post := by
  intro p e R s m args below meth c H locs cells slots lsA TC TS hC hM hS hl h1 h2 h3 h4
  obtain ⟨hx, hb, hml, hown, hr, hlk, hxt, hts, hK, hf, hlo, hnm⟩ := id hC
  refine vx_ret (W.widen (k := TC) (n := TS) (by omega) (by omega) (W.zret (v := x) hx hb (hr.trans hr0) hn0 (fun t ht hW => ?_) hS.2.2 hd hlk))
  obtain ⟨w1, w2⟩ := ret_world hM hS ht hW
  exact ⟨⟨some (.inl (.int x)), M, rfl, hp, w1⟩, w2⟩
theorem ev_freturn {g : GL} {d : Nat} {mi : MI} {pc : Nat} {ls : List (Option RV)} {st : List RV} {M : RM} {mc ms : Nat} {Post : RO → RM → Prop} {x : UInt32} (hr0 : mi.2.2.2.1 = some .float) (hd : decode mi.2.1 pc = .ok (.freturn, 1)) (hp : Post (.inr (some (.inl (.float x)))) M) : Ev g d mi pc ls [.inl (.float x)] M mc ms Post := by
  intro p e R s m args below meth c H locs cells slots lsA TC TS hC hM hS hl h1 h2 h3 h4
  obtain ⟨hx, hb, hml, hown, hr, hlk, hxt, hts, hK, hf, hlo, hnm⟩ := id hC
  refine vx_ret (W.widen (k := TC) (n := TS) (by omega) (by omega) (W.fret (v := x) hx hb (hr.trans hr0) (fun t ht hW => ?_) hS.2.2 hd hlk))
  obtain ⟨w1, w2⟩ := ret_world hM hS ht hW
  exact ⟨⟨some (.inl (.float x)), M, rfl, hp, w1⟩, w2⟩
theorem ev_dreturn {g : GL} {d : Nat} {mi : MI} {pc : Nat} {ls : List (Option RV)} {st : List RV} {M : RM} {mc ms : Nat} {Post : RO → RM → Prop} {x : UInt64} (hr0 : mi.2.2.2.1 = some .double) (hd : decode mi.2.1 pc = .ok (.dreturn, 1)) (hp : Post (.inr (some (.inl (.double x)))) M) : Ev g d mi pc ls [.inl (.double x)] M mc ms Post := by
  intro p e R s m args below meth c H locs cells slots lsA TC TS hC hM hS hl h1 h2 h3 h4
  obtain ⟨hx, hb, hml, hown, hr, hlk, hxt, hts, hK, hf, hlo, hnm⟩ := id hC
  refine vx_ret (W.widen (k := TC) (n := TS) (by omega) (by omega) (W.dret (v := x) hx hb (hr.trans hr0) (fun t ht hW => ?_) hS.2.2 hd hlk))
  obtain ⟨w1, w2⟩ := ret_world hM hS ht hW
  exact ⟨⟨some (.inl (.double x)), M, rfl, hp, w1⟩, w2⟩
theorem ev_areturn {g : GL} {d : Nat} {mi : MI} {pc : Nat} {ls : List (Option RV)} {st : List RV} {M : RM} {mc ms : Nat} {Post : RO → RM → Prop} {r : Nat × Nat} {rt : FieldType} (hr0 : mi.2.2.2.1 = some rt) (hrt : (∃ n, rt = .object n) ∨ ∃ t, rt = .array t) (hd : decode mi.2.1 pc = .ok (.areturn, 1)) (hp : Post (.inr (some (.inr r))) M) : Ev g d mi pc ls [.inr r] M mc ms Post := by
  intro p e R s m args below meth c H locs cells slots lsA TC TS hC hM hS hl h1 h2 h3 h4
  obtain ⟨hx, hb, hml, hown, hr, hlk, hxt, hts, hK, hf, hlo, hnm⟩ := id hC
  refine vx_ret (W.widen (k := TC) (n := TS) (by omega) (by omega) (W.aret (v := conc g (.inr r)) hx hb (hr.trans hr0) hrt (Or.inr ⟨_, conc_ref g r⟩) (fun t ht hW => ?_) hS.2.2 hd hlk))
  obtain ⟨w1, w2⟩ := ret_world hM hS ht hW
  exact ⟨⟨some (.inr r), M, rfl, hp, w1⟩, w2⟩
theorem ev_return {g : GL} {d : Nat} {mi : MI} {pc : Nat} {ls : List (Option RV)} {st : List RV} {M : RM} {mc ms : Nat} {Post : RO → RM → Prop} (hr0 : mi.2.2.2.1 = none) (hd : decode mi.2.1 pc = .ok (.return_, 1)) (hp : Post (.inr none) M) : Ev g d mi pc ls [] M mc ms Post := by
  intro p e R s m args below meth c H locs cells slots lsA TC TS hC hM hS hl h1 h2 h3 h4
  obtain ⟨hx, hb, hml, hown, hr, hlk, hxt, hts, hK, hf, hlo, hnm⟩ := id hC
  refine vx_ret (W.widen (k := TC) (n := TS) (by omega) (by omega) (W.vret hx hb (hr.trans hr0) (fun t ht hW => ?_) hS.2.2 hd hlk))
  obtain ⟨w1, w2⟩ := ret_world hM hS ht hW
  exact ⟨⟨none, M, rfl, hp, w1⟩, w2⟩
theorem Ev.post {g : GL} {d : Nat} {mi : MI} {pc : Nat} {ls : List (Option RV)} {st : List RV} {M : RM} {mc ms : Nat} {Post : RO → RM → Prop} {Post2 : RO → RM → Prop} (h : Ev g d mi pc ls st M mc ms Post) (hp : ∀ o M', Post o M' → Post2 o M') : Ev g d mi pc ls st M mc ms Post2 := by
  intro p e R s m args below meth c H locs cells slots lsA TC TS hC hM hS hl h1 h2 h3 h4
  obtain ⟨hx, hb, hml, hown, hr, hlk, hxt, hts, hK, hf, hlo, hnm⟩ := id hC
  intro T hT X
  obtain ⟨t, a1, o, b1, b2, b3⟩ := h p e R s m args below meth c H locs cells slots lsA TC TS hC hM hS hl h1 h2 h3 h4 T hT X
  refine ⟨t, a1, o, b1, b2, ?_⟩
  rcases b3 with ⟨⟨⟨v, M', e1, e2, e3⟩, e4⟩, e5⟩ | ⟨q, e1, E, ce, L, ⟨⟨M', f1, f2⟩, f3⟩, f4⟩
  · exact Or.inl ⟨⟨⟨v, M', e1, hp _ _ e2, e3⟩, e4⟩, e5⟩
  · exact Or.inr ⟨q, e1, E, ce, L, ⟨⟨M', hp _ _ f1, f2⟩, f3⟩, f4⟩
theorem Ev.room {g : GL} {d : Nat} {mi : MI} {pc : Nat} {ls : List (Option RV)} {st : List RV} {M : RM} {mc ms : Nat} {Post : RO → RM → Prop} {mc2 ms2 : Nat} (h : Ev g d mi pc ls st M mc ms Post) (h5 : mc ≤ mc2) (h6 : ms ≤ ms2) : Ev g d mi pc ls st M mc2 ms2 Post := by
  intro p e R s m args below meth c H locs cells slots lsA TC TS hC hM hS hl h1 h2 h3 h4
  obtain ⟨hx, hb, hml, hown, hr, hlk, hxt, hts, hK, hf, hlo, hnm⟩ := id hC
  exact h p e R s m args below meth c H locs cells slots lsA TC TS hC hM hS hl (by omega) (by omega) h3 h4
theorem Ev.depth {g : GL} {d : Nat} {mi : MI} {pc : Nat} {ls : List (Option RV)} {st : List RV} {M : RM} {mc ms : Nat} {Post : RO → RM → Prop} {d2 : Nat} (h : Ev g d mi pc ls st M mc ms Post) (h5 : d ≤ d2) : Ev g d2 mi pc ls st M mc ms Post := by
  intro p e R s m args below meth c H locs cells slots lsA TC TS hC hM hS hl h1 h2 h3 h4
  obtain ⟨hx, hb, hml, hown, hr, hlk, hxt, hts, hK, hf, hlo, hnm⟩ := id hC
  exact h p e R s m args below meth c H locs cells slots lsA TC TS ⟨hx, hb, hml, hown, hr, hlk, hxt, hts, hK, by omega, by omega, hnm⟩ hM hS hl h1 h2 h3 h4
-- methods
def cdW (mi : MI) : Cond := if mi.2.2.2.2 = [] then .code mi.1 mi.2.1 mi.2.2.1 mi.2.2.2.1 else .codeWith mi.1 mi.2.1 mi.2.2.1 mi.2.2.2.1 mi.2.2.2.2
def wsM (mi : MI) : List Cond := cdW mi :: lw_good
def rmD (d mc ms : Nat) : Room := { frames := 3 + d, cells := mc, slots := ms, locals := 150 + 35 * d }
def pcM (g : GL) (vs : List RV) (M : RM) : Array Value → State → Prop := va_Pc (vs.map (conc g)) (fun U => KU g U U.heap ∧ MR g M U U.heap)
def Mt (g : GL) (d : Nat) (mi : MI) (vs : List RV) (M : RM) (mc ms : Nat) (Post : RO → RM → Prop) : Prop :=
  mc ≤ 1000000 → vx_Met g.1 mi.1 (wsM mi) (rmD d mc ms) (pcM g vs M) (QC g Post) (QX g Post) mc ms (rA g)
theorem pcM_blind {g : GL} {vs : List RV} {M : RM} : FrameBlind (pcM g vs M) := fun a U g9 mk h => ⟨h.1, KU.warm (s := U) (U := U.calling g9 mk a) (State.WarmedH.refl U) h.2.1 (Nat.le_refl _) (fun _ _ _ => rfl), h.2.2.moved (Vm.Alike.refl U.vm)⟩
def fill (n : Nat) (vs : List RV) : List (Option RV) := vs.map some ++ List.replicate (n - vs.length) none
theorem lvl_none (g : GL) : ∀ (i n : Nat), lvl g i (List.replicate n none) = []
  | _, 0 => rfl
  | i, n + 1 => lvl_none g (i + 1) n
theorem lvl_args {g : GL} {n : Nat} : ∀ {vs : List RV} {i : Nat}, (∀ v ∈ vs, one1 v = true) → lvl g i (vs.map some ++ List.replicate n none) = lv_args i (vs.map (conc g))
  | [], i, _ => lvl_none g i n
  | v :: vs, i, h => by
    have h1 : ¬ (conc g v).category = 2 := by rw [one1_cat (h v List.mem_cons_self)]; omega
    show (i, conc g v) :: lvl g (i + 1) (vs.map some ++ List.replicate n none) = (i, conc g v) :: lv_args (if (conc g v).category = 2 then i + 2 else i + 1) (vs.map (conc g))
    rw [if_neg h1, lvl_args (fun w hw => h w (List.mem_cons_of_mem _ hw))]
theorem lg_sl_one {g : GL} : ∀ {vs : List RV}, (∀ v ∈ vs, one1 v = true) → (lg_sl (vs.map (conc g))).length = vs.length
  | [], _ => rfl
  | v :: vs, h => by
    have h1 : ¬ (conc g v).category = 2 := by rw [one1_cat (h v List.mem_cons_self)]; omega
    have ih := lg_sl_one (g := g) (vs := vs) (fun w hw => h w (List.mem_cons_of_mem _ hw))
    unfold lg_sl at ih ⊢
    simp only [List.map_cons, List.flatMap_cons, if_neg h1, List.length_append, ih]
    simp
    omega
theorem lvl_lists {g : GL} {vs : List RV} {n : Nat} (ha : ∀ v ∈ vs, one1 v = true) (hn : vs.length ≤ n) : lv_has ((lg_sl (vs.map (conc g)) ++ List.replicate (n - (lg_sl (vs.map (conc g))).length) Slot.unset).toArray) n (lvl g 0 (fill n vs)) := by
  have h1 := lv_entry (vs.map (conc g)) (n := n) (by rw [lg_sl_one ha]; exact hn)
  unfold fill
  rw [lvl_args ha]
  exact h1
theorem Mt.of {g : GL} {d : Nat} {mi : MI} {vs : List RV} {M : RM} {mc ms : Nat} {Post : RO → RM → Prop} (hy : plainName mi.1.cls = true) (hh : mi.2.2.2.2 = []) (ha : ∀ v ∈ vs, one1 v = true) (hn : vs.length ≤ mi.2.2.1) (k : Ev g d mi 0 (fill mi.2.2.1 vs) [] M mc ms Post) : Mt g d mi vs M mc ms Post := by
  intro hmc9
  refine vx_ofW (cc := mi.2.1) (maxL := mi.2.2.1) (ret := mi.2.2.2.1) (ws' := lw_good) hy (by unfold wsM cdW; rw [if_pos hh]) ?_
  intro p e s m args below meth c s₁ B hml ht hv
  obtain ⟨rfl, hKU, hMR⟩ := hv
  have hts := atoms_spec (ws := wsM mi) B.pre
  rw [lg_entry_eq]
  have hx9 : c.exceptionTable.toList = tableOf mi.2.2.2.2 := by
    rw [hh]
    cases hc : c.exceptionTable.toList with
    | nil => rfl
    | cons a l => exact (ht a (by rw [hc]; exact List.mem_cons_self)).elim
  exact k p e (rmD d mc ms) s m _ below meth c s.heap [] 0 0 _ mc ms ⟨B.exec, B.bytes, hml, findClass_of_methodNamed B.named, B.returns, B.notSynchronized, hx9, fun w hw => hts w (List.mem_cons_of_mem _ hw), hKU, Nat.le_refl _, Nat.le_refl _, (name_of_methodNamed B.named B.method).1⟩ hMR va_S.rf (lvl_lists ha hn) (by omega) (by omega) ⟨Nat.le_refl _, hmc9⟩ (Nat.le_refl _)
theorem Mt.ofH {g : GL} {d : Nat} {mi : MI} {vs : List RV} {M : RM} {mc ms : Nat} {Post : RO → RM → Prop} (hy : plainName mi.1.cls = true) (hh : ¬ mi.2.2.2.2 = []) (ha : ∀ v ∈ vs, one1 v = true) (hn : vs.length ≤ mi.2.2.1) (k : Ev g d mi 0 (fill mi.2.2.1 vs) [] M mc ms Post) : Mt g d mi vs M mc ms Post := by
  intro hmc9
  refine vx_ofWH (cc := mi.2.1) (maxL := mi.2.2.1) (ret := mi.2.2.2.1) (hh := mi.2.2.2.2) (ws' := lw_good) hy (by unfold wsM cdW; rw [if_neg hh]) ?_
  intro p e s m args below meth c s₁ B hml hv
  obtain ⟨rfl, hKU, hMR⟩ := hv
  have hts := atoms_spec (ws := wsM mi) B.pre
  rw [lg_entry_eq]
  have hx9 : c.exceptionTable.toList = tableOf mi.2.2.2.2 := vx_table (x := mi.1) B (by have h9 := hts _ List.mem_cons_self; unfold cdW at h9; rw [if_neg hh] at h9; exact h9)
  exact k p e (rmD d mc ms) s m _ below meth c s.heap [] 0 0 _ mc ms ⟨B.exec, B.bytes, hml, findClass_of_methodNamed B.named, B.returns, B.notSynchronized, hx9, fun w hw => hts w (List.mem_cons_of_mem _ hw), hKU, Nat.le_refl _, Nat.le_refl _, (name_of_methodNamed B.named B.method).1⟩ hMR va_S.rf (lvl_lists ha hn) (by omega) (by omega) ⟨Nat.le_refl _, hmc9⟩ (Nat.le_refl _)
-- calls
section RunGo
variable {g : GL} {p : Program} {e : Env} {R : Room} {s : State} {m : MethodId} {args : Array Value} {below : List Frame} {meth : Method} {c : Code} {H : Heap} {locs : List Loc} {cells slots : Nat} {Q : State → Prop}
theorem run_go {mc1 ms1 pc : Nat} {lsA : Array Slot} {st0 rest : List Value} {Post1 : RO → RM → Prop} {a : Array Value} (hr : vx_Run p g.1 e R s m args below meth c H locs cells slots mc1 ms1 (F0 m pc lsA st0) rest (QC g Post1 a) (QX g Post1) (rA g)) (hS : va_S (rA g) s.heap H locs)
    (kx : ∀ (E : String) (ce : Cell) (q9 : Addr) (M1 : RM) (H1 : Heap) (locs1 : List Loc), Post1 (.inl E) M1 → ML g M1 s H1 → va_S (rA g) s.heap H1 locs1 → H1[q9]? = some ce → ce.vm = .none → s.vm.findClass E = some ce.cls → vx_W p g.1 e R s m args below meth c H1 locs1 (cells + mc1) (slots + ms1) Q (F0 m pc lsA rest) q9)
    (kk : ∀ (v : Option RV) (M1 : RM) (H1 : Heap) (locs1 : List Loc), Post1 (.inr v) M1 → MR g M1 s H1 → va_S (rA g) s.heap H1 locs1 → W p g.1 e R s m args below meth c H1 locs1 (cells + mc1) (slots + ms1) Q (F0 m (pc + 3) lsA ((v.map (conc g)).toList ++ rest))) :
    W p g.1 e R s m args below meth c H locs cells slots Q (F0 m pc lsA st0) := by
  intro T hT X
  rcases hr T hT X with ⟨v, st₀, t, T', L, h0, X', hL, e1, e2, ⟨⟨w, M1, hv, hp, hM1⟩, hF⟩, st⟩ | ⟨q, st₀, t, T', L, E, ce, h0, X', hL, e1, e2, ⟨⟨M1, hp, hM1⟩, hF⟩, hce, hcv, hcl, st⟩
  · cases hv
    obtain ⟨k1, k2, k3⟩ := vx_keep h0 e1 hS (fun _ _ h => h) (fun _ h => h) hL hF
    have hal : t.vm.Alike s.vm := by rw [← e2]; exact X'.warmed.alike.symm
    obtain ⟨t2, a1, b1⟩ := kk w M1 T'.heap (locs ++ L) hp (by rw [e1]; exact hM1.moved hal) k3 T' rfl X'
    exact ⟨t2, st t2 a1, b1⟩
  · obtain ⟨k1, k2, k3⟩ := vx_keep h0 e1 hS (fun _ _ h => h) (fun _ h => h) hL hF
    have hal : t.vm.Alike s.vm := by rw [← e2]; exact X'.warmed.alike.symm
    obtain ⟨t2, a1, b1⟩ := kx E ce q M1 T'.heap (locs ++ L) hp (by rw [e1]; exact hM1.moved hal) k3 (by rw [e1]; exact hce) hcv hcl T' rfl X'
    exact ⟨t2, st.trans a1, b1⟩
end RunGo

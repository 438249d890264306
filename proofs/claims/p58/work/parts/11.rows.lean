
/-- a value gets a name -/
def nm {α β : Type} (x : α) (f : α → β) : β := f x
theorem nm_some {α β : Type} {x : α} {f : α → Option β} {o : β} (h : nm x f = some o) : ∃ y, y = x ∧ f y = some o := ⟨x, rfl, h⟩
def els {A B R : Type} (r : A ⊕ B) (f : A → R) (k : B → R) : R := match r with
  | .inl a => f a
  | .inr b => k b
theorem els_l {A B R : Type} {a : A} {f : A → R} {k : B → R} : els (.inl a) f k = f a := rfl
theorem els_r {A B R : Type} {b : B} {f : A → R} {k : B → R} : els (.inr b) f k = k b := rfl
/-- fewer locals are known -/
def LSb : List (Option RV) → List (Option RV) → Prop
  | [], _ => True
  | none :: t, _ :: t' => LSb t t'
  | none :: _, [] => False
  | some v :: t, w :: t' => w = some v ∧ LSb t t'
  | some _ :: _, [] => False
theorem LSb.z {l : List (Option RV)} : LSb [] l := by cases l <;> trivial
theorem LSb.n {t t' : List (Option RV)} {w : Option RV} (h : LSb t t') : LSb (none :: t) (w :: t') := h
theorem LSb.s {t t' : List (Option RV)} {v : RV} (h : LSb t t') : LSb (some v :: t) (some v :: t') := ⟨rfl, h⟩
theorem LSb.at : ∀ {l l' : List (Option RV)}, LSb l l' → ∀ {i : Nat} {v : RV}, l[i]? = some (some v) → l'[i]? = some (some v)
  | [], _, _, _, _, h => by simp at h
  | none :: t, [], hs, _, _, _ => hs.elim
  | some _ :: t, [], hs, _, _, _ => hs.elim
  | none :: t, w :: t', hs, 0, v, h => by simp at h
  | none :: t, w :: t', hs, i + 1, v, h => LSb.at (l := t) (l' := t') hs (i := i) h
  | some u :: t, w :: t', hs, 0, v, h => by
    obtain ⟨rfl, -⟩ := hs
    exact h
  | some u :: t, w :: t', hs, i + 1, v, h => LSb.at (l := t) (l' := t') hs.2 (i := i) h
theorem Ev.sub {g : GL} {d : Nat} {mi : MI} {pc : Nat} {ls ls' : List (Option RV)} {st : List RV} {M : RM} {mc ms : Nat} {Post : RO → RM → Prop} (hs : LSb ls' ls) (h : Ev g d mi pc ls' st M mc ms Post) : Ev g d mi pc ls st M mc ms Post := by
  intro p e R s m args below meth c H locs cells slots lsA TC TS hC hM hS hl h1 h2 h3 h4
  refine h p e R s m args below meth c H locs cells slots lsA TC TS hC hM hS (lvh_mono hl (fun q hq => ?_)) h1 h2 h3 h4
  obtain ⟨i, v, e1, rfl⟩ := lvl_of hq
  exact lvl_at (g := g) (k := 0) (hs.at e1)
theorem Ev.at {g : GL} {d : Nat} {mi : MI} {pc pc' : Nat} {ls : List (Option RV)} {st : List RV} {M : RM} {mc ms : Nat} {Post : RO → RM → Prop} (e : pc = pc') (h : Ev g d mi pc' ls st M mc ms Post) : Ev g d mi pc ls st M mc ms Post := by subst e; exact h
theorem Mt.of9 {g : GL} {d : Nat} {mi : MI} {vs : List RV} {M : RM} {mc ms : Nat} {Post : RO → RM → Prop} (ls : List (Option RV)) (hy : plainName mi.1.cls = true) (hh : mi.2.2.2.2 = []) (ha : vs.all one1 = true) (hn : Nat.ble vs.length mi.2.2.1 = true) (hl : fill mi.2.2.1 vs = ls) (k : Ev g d mi 0 ls [] M mc ms Post) : Mt g d mi vs M mc ms Post := by
  subst hl
  exact Mt.of hy hh (fun v hv => List.all_eq_true.mp ha v hv) (Nat.le_of_ble_eq_true hn) k
theorem Mt.of9H {g : GL} {d : Nat} {mi : MI} {vs : List RV} {M : RM} {mc ms : Nat} {Post : RO → RM → Prop} (ls : List (Option RV)) (hy : plainName mi.1.cls = true) (hh : ¬ mi.2.2.2.2 = []) (ha : vs.all one1 = true) (hn : Nat.ble vs.length mi.2.2.1 = true) (hl : fill mi.2.2.1 vs = ls) (k : Ev g d mi 0 ls [] M mc ms Post) : Mt g d mi vs M mc ms Post := by
  subst hl
  exact Mt.ofH hy hh (fun v hv => List.all_eq_true.mp ha v hv) (Nat.le_of_ble_eq_true hn) k
-- stores that give a name
theorem cv_istoreN_n {g : GL} {d : Nat} {mi : MI} {pc : Nat} {ls : List (Option RV)} {st : List RV} {mc ms : Nat} {Post : RO → RM → Prop} {V : Nat → Nat → Prop} {lo hi nx : Nat} {μ : Mem} {F G : RG} (k0 : Fin 4) {x : Int32} (y : Int32) (e : y = x) (ls' : List (Option RV)) (hd : decode mi.2.1 pc = .ok (.istore_n k0, 1)) (ok : okst ls (k0 : Nat) = true) (hn : Nat.ble ((k0 : Nat) + 1) mi.2.2.1 = true) (hs : ls.set (k0 : Nat) (some (.inl (.int y))) = ls') (k : Ev g d mi (pc + 1) ls' st (G, nx) mc ms Post) : Ev g d mi pc ls (.inl (.int x) :: st) (G, nx) mc ms Post := by subst e; subst hs; exact ev_istore_n ok (Nat.le_of_ble_eq_true hn) hd k
theorem cv_istoreN {g : GL} {d : Nat} {mi : MI} {pc : Nat} {ls : List (Option RV)} {st : List RV} {mc ms : Nat} {Post : RO → RM → Prop} {V : Nat → Nat → Prop} {lo hi nx : Nat} {μ : Mem} {F G : RG} (i : Nat) {x : Int32} (y : Int32) (e : y = x) (ls' : List (Option RV)) (hd : decode mi.2.1 pc = .ok (.istore i, 2)) (ok : okst ls i = true) (hn : Nat.ble (i + 1) mi.2.2.1 = true) (hs : ls.set i (some (.inl (.int y))) = ls') (k : Ev g d mi (pc + 2) ls' st (G, nx) mc ms Post) : Ev g d mi pc ls (.inl (.int x) :: st) (G, nx) mc ms Post := by subst e; subst hs; exact ev_istore ok (Nat.le_of_ble_eq_true hn) hd k
theorem cv_astoreN_n {g : GL} {d : Nat} {mi : MI} {pc : Nat} {ls : List (Option RV)} {st : List RV} {mc ms : Nat} {Post : RO → RM → Prop} {V : Nat → Nat → Prop} {lo hi nx : Nat} {μ : Mem} {F G : RG} (k0 : Fin 4) {r : Nat × Nat} (ls' : List (Option RV)) (hd : decode mi.2.1 pc = .ok (.astore_n k0, 1)) (ok : okst ls (k0 : Nat) = true) (hn : Nat.ble ((k0 : Nat) + 1) mi.2.2.1 = true) (hs : ls.set (k0 : Nat) (some (.inr r)) = ls') (k : Ev g d mi (pc + 1) ls' st (G, nx) mc ms Post) : Ev g d mi pc ls (.inr r :: st) (G, nx) mc ms Post := by subst hs; exact ev_astore_n ok (Nat.le_of_ble_eq_true hn) hd k
theorem cv_astoreN {g : GL} {d : Nat} {mi : MI} {pc : Nat} {ls : List (Option RV)} {st : List RV} {mc ms : Nat} {Post : RO → RM → Prop} {V : Nat → Nat → Prop} {lo hi nx : Nat} {μ : Mem} {F G : RG} (i : Nat) {r : Nat × Nat} (ls' : List (Option RV)) (hd : decode mi.2.1 pc = .ok (.astore i, 2)) (ok : okst ls i = true) (hn : Nat.ble (i + 1) mi.2.2.1 = true) (hs : ls.set i (some (.inr r)) = ls') (k : Ev g d mi (pc + 2) ls' st (G, nx) mc ms Post) : Ev g d mi pc ls (.inr r :: st) (G, nx) mc ms Post := by subst hs; exact ev_astore ok (Nat.le_of_ble_eq_true hn) hd k
theorem cv_iincN {g : GL} {d : Nat} {mi : MI} {pc : Nat} {ls : List (Option RV)} {st : List RV} {mc ms : Nat} {Post : RO → RM → Prop} {V : Nat → Nat → Prop} {lo hi nx : Nat} {μ : Mem} {F G : RG} (i : Nat) {n : Int} {x : Int32} (y : Int32) (ls' : List (Option RV)) (hd : decode mi.2.1 pc = .ok (.iinc i n, 3)) (hl0 : ls[i]? = some (some (.inl (.int x)))) (ok : okst ls i = true) (hn : Nat.ble (i + 1) mi.2.2.1 = true) (hv : Int32.ofInt n = y) (hs : ls.set i (some (.inl (.int (x + y)))) = ls') (k : Ev g d mi (pc + 3) ls' st (G, nx) mc ms Post) : Ev g d mi pc ls st (G, nx) mc ms Post := by subst hv; subst hs; exact ev_iinc hl0 ok (Nat.le_of_ble_eq_true hn) hd k
-- calls
theorem LM.obj {g : GL} {V : Nat → Nat → Prop} {lo hi nx : Nat} {μ : Mem} {F G : RG} (hG : LM V lo hi μ F G) {K j : Nat} (hv : V K j) (hA : isA K = false) : rdM g (G, nx) (0, off K j) = some (false, ixK K, lenK K, fun f => fld K j f (μ K j f)) := by
  have h1 := hG.1 K j hv
  unfold cel at h1
  rw [hA] at h1
  exact h1
theorem cv_V {g : GL} {d : Nat} {mi : MI} {pc : Nat} {ls : List (Option RV)} {st : List RV} {mc ms : Nat} {Post : RO → RM → Prop} {V : Nat → Nat → Prop} {lo hi nx : Nat} {μ : Mem} {F G : RG} {idx n mc1 ms1 : Nat} {mi2 : MI} (vs : List RV) {Post1 : RO → RM → Prop} {K j : Nat} (hG : LM V lo hi μ F G) (hv : V K j) (hA : isA K = false) (lk : LV mi.1.cls idx (ixK K) n mi2) (hM9 : Mt g d mi2 (.inr (0, off K j) :: vs) (G, nx) mc1 ms1 Post1) (hn : vs.length = n) (hst : Nat.ble st.length 4 = true) (hd : decode mi.2.1 pc = .ok (.invokevirtual idx, 3)) (hA : Aft g (d + 1) mi (pc + 3) ls st mc ms Post1 Post) : Ev g (d + 1) mi pc ls (vs.reverse ++ .inr (0, off K j) :: st) (G, nx) (mc1 + mc) (ms1 + ms) Post :=
  ev_invV (M := (G, nx)) (hG.obj hv ‹_›) lk hM9 hn (Nat.le_of_ble_eq_true hst) hd hA
theorem cv_U {g : GL} {d : Nat} {mi : MI} {pc : Nat} {ls : List (Option RV)} {st : List RV} {mc ms : Nat} {Post : RO → RM → Prop} {V : Nat → Nat → Prop} {lo hi nx : Nat} {μ : Mem} {F G : RG} {idx n mc1 ms1 : Nat} {mi2 : MI} (vs : List RV) {Post1 : RO → RM → Prop} {K j : Nat} (hG : LM V lo hi μ F G) (hv : V K j) (hA : isA K = false) (lk : LU mi.1.cls idx (ixK K) n mi2) (hM9 : Mt g d mi2 (.inr (0, off K j) :: vs) (G, nx) mc1 ms1 Post1) (hn : vs.length = n) (hst : Nat.ble st.length 4 = true) (hd : decode mi.2.1 pc = .ok (.invokevirtual idx, 3)) (hA : Aft g (d + 1) mi (pc + 3) ls st mc ms Post1 Post) : Ev g (d + 1) mi pc ls (vs.reverse ++ .inr (0, off K j) :: st) (G, nx) (mc1 + mc) (ms1 + ms) Post :=
  ev_invU (M := (G, nx)) (hG.obj hv ‹_›) lk hM9 hn (Nat.le_of_ble_eq_true hst) hd hA
theorem cv_S {g : GL} {d : Nat} {mi : MI} {pc : Nat} {ls : List (Option RV)} {st : List RV} {mc ms : Nat} {Post : RO → RM → Prop} {V : Nat → Nat → Prop} {lo hi nx : Nat} {μ : Mem} {F G : RG} {idx n mc1 ms1 : Nat} {mi2 : MI} (vs : List RV) {Post1 : RO → RM → Prop} (lk : mi2.2.2.2.2 = [] ∧ LST mi.1.cls idx n mi2) (hM9 : Mt g d mi2 vs (G, nx) mc1 ms1 Post1) (hn : vs.length = n) (hst : Nat.ble st.length 4 = true) (hd : decode mi.2.1 pc = .ok (.invokestatic idx, 3)) (hA : Aft g (d + 1) mi (pc + 3) ls st mc ms Post1 Post) : Ev g (d + 1) mi pc ls (vs.reverse ++ st) (G, nx) (mc1 + mc) (ms1 + ms) Post :=
  ev_invS lk.1 lk.2 hM9 hn (Nat.le_of_ble_eq_true hst) hd hA
theorem cv_SN {g : GL} {d : Nat} {mi : MI} {pc : Nat} {ls : List (Option RV)} {st : List RV} {mc ms : Nat} {Post : RO → RM → Prop} {V : Nat → Nat → Prop} {lo hi nx : Nat} {μ : Mem} {F G : RG} {idx n mc1 ms1 : Nat} {mi2 : MI} (vs : List RV) {Post1 : RO → RM → Prop} (lk : LSN mi.1.cls idx n mi2) (hM9 : Mt g d mi2 vs (G, nx) mc1 ms1 Post1) (hn : vs.length = n) (hst : Nat.ble st.length 4 = true) (hd : decode mi.2.1 pc = .ok (.invokestatic idx, 3)) (hA : Aft g (d + 1) mi (pc + 3) ls st mc ms Post1 Post) : Ev g (d + 1) mi pc ls (vs.reverse ++ st) (G, nx) (mc1 + mc) (ms1 + ms) Post :=
  ev_invSN lk hM9 hn (Nat.le_of_ble_eq_true hst) hd hA
theorem aft_thw {g : GL} {d : Nat} {mi : MI} {pc : Nat} {ls : List (Option RV)} {st : List RV} {mc ms : Nat} {Post : RO → RM → Prop} {V : Nat → Nat → Prop} {lo hi nx : Nat} {μ : Mem} {F G : RG} {E : String} (hh : mi.2.2.2.2 = []) (k : ∀ G', LM V lo hi μ F G' → Post (.inl E) (G', nx)) : Aft g d mi pc ls st mc ms (pRW V lo hi (.inl E) μ F nx) Post :=
  ⟨fun v M1 h => (by obtain ⟨h1, -⟩ := h; cases h1), fun E M1 h => by obtain ⟨h1, h2, h3⟩ := h; cases h1; obtain ⟨G', n'⟩ := M1; cases h3; exact ⟨hh, k G' h2⟩⟩
/-- what a method's number or exception is as an outcome -/
def thR {T : Type} (f : T → RO) : String ⊕ T → RO
  | .inl E => .inl E
  | .inr v => f v
theorem nc_ofNat {j : Nat} (h : j < 4096) : (Int32.ofNat j).toNatClampNeg = j := by
  have := nI_clamp (n := j) (by omega)
  exact this
theorem fldx {K j : Nat} (h : j < 4096) : (.inr (0, off K (Int32.ofNat j).toNatClampNeg) : RV) = .inr (0, off K j) := by rw [nc_ofNat h]
theorem hd0_of {mi2 : MI} {n : Nat} (h1 : mi2.1.cls ≠ "java/lang/invoke/MethodHandle") (h2 : mi2.1.cls ≠ "java/lang/invoke/VarHandle") (h3 : (parseMethodDescriptor mi2.1.desc).map (fun d => d.parameters.length) = some n) (h4 : Nat.ble mi2.2.2.1 16 = true) (hh : mi2.2.2.2.2 = []) (hw : Cond.code mi2.1 mi2.2.1 mi2.2.2.1 mi2.2.2.2.1 ∈ lw_good) : hd0 mi2 n :=
  ⟨h1, h2, h3, Nat.le_of_ble_eq_true h4, by unfold cdW; rw [if_pos hh]; exact hw⟩
theorem hd0_ofH {mi2 : MI} {n : Nat} (h1 : mi2.1.cls ≠ "java/lang/invoke/MethodHandle") (h2 : mi2.1.cls ≠ "java/lang/invoke/VarHandle") (h3 : (parseMethodDescriptor mi2.1.desc).map (fun d => d.parameters.length) = some n) (h4 : Nat.ble mi2.2.2.1 16 = true) (hh : ¬ mi2.2.2.2.2 = []) (hw : Cond.codeWith mi2.1 mi2.2.1 mi2.2.2.1 mi2.2.2.2.1 mi2.2.2.2.2 ∈ lw_good) : hd0 mi2 n :=
  ⟨h1, h2, h3, Nat.le_of_ble_eq_true h4, by unfold cdW; rw [if_neg hh]; exact hw⟩
/-- a switch over 0 to n, past its end -/
theorem tab_out {x : Int32} {n : Nat} (hn : n < 1000) (h : ∀ k, k ≤ n → x ≠ Int32.ofNat k) : x.toInt < 0 ∨ (n : Int) < x.toInt := by
  rcases Int.lt_or_le x.toInt 0 with h1 | h1
  · exact Or.inl h1
  · refine Or.inr (Int.not_le.mp fun h2 => h x.toInt.toNat (by omega) ?_)
    apply Int32.toInt_inj.mp
    rw [Int32.toInt_ofNat_of_lt (by omega)]
    omega


def inb (i : Int32) (n : Nat) : Bool := decide (¬ (i < 0 ∨ n ≤ i.toNatClampNeg))
theorem inb_vp {i : Int32} {n : Nat} (h : inb i n = true) : vp_in i n := by
  have h1 : ¬ (i < 0 ∨ n ≤ i.toNatClampNeg) := of_decide_eq_true h
  exact h1
theorem inb_lt {i : Int32} {n : Nat} (h : inb i n = true) : i.toNatClampNeg < n := Nat.not_le.mp fun q => inb_vp h (Or.inr q)
/-- a number that is one of a narrow type -/
def nb (ty : FieldType) (x : Int32) : Bool := decide (narrow ty (.int x) = .int x)
theorem nb_eq {ty : FieldType} {x : Int32} (h : nb ty x = true) : narrow ty (.int x) = .int x := of_decide_eq_true h
def chk {α : Type} (b : Bool) (e : Option α) : Option α := if b = true then e else none
theorem chk_some {α : Type} {b : Bool} {e : Option α} {o : α} (h : chk b e = some o) : b = true ∧ e = some o := by
  unfold chk at h
  split at h
  · exact ⟨by assumption, h⟩
  · cases h
theorem bind_some9 {α β : Type} {a : Option α} {f : α → Option β} {o : β} (h : a.bind f = some o) : ∃ r, a = some r ∧ f r = some o := by
  cases a with
  | none => cases h
  | some r => exact ⟨r, rfl, h⟩
/-- a loop, at most n times round -/
def it {S R : Type} (f : S → Option (S ⊕ R)) : Nat → S → Option R
  | 0, _ => none
  | n + 1, s => match f s with
    | none => none
    | some (.inl s') => it f n s'
    | some (.inr r) => some r
def LIM : Nat := 3000000
theorem it_ev {S R : Type} {f : S → Option (S ⊕ R)} {W : S → Prop} {X : R → Prop} {r0 : R} (hX : X r0)
    (hstep : ∀ s o, f s = some o → (∀ s', o = .inl s' → W s') → (∀ r, o = .inr r → X r) → W s) : ∀ n s, it f n s = some r0 → W s := by
  intro n
  induction n with
  | zero => intro s h; cases h
  | succ n ih =>
    intro s h
    unfold it at h
    cases hf : f s with
    | none => rw [hf] at h; cases h
    | some o =>
      rw [hf] at h
      refine hstep s o hf (fun s' e => ?_) (fun r e => ?_)
      · subst e; exact ih s' h
      · subst e; cases h; exact hX
theorem Ev.cong {g : GL} {d : Nat} {mi : MI} {pc : Nat} {ls ls' : List (Option RV)} {st st' : List RV} {M : RM} {mc ms : Nat} {Post : RO → RM → Prop} (h : Ev g d mi pc ls' st' M mc ms Post) (e1 : ls = ls') (e2 : st = st') : Ev g d mi pc ls st M mc ms Post := by subst e1; subst e2; exact h
-- constants and locals, the new state written out
theorem cv_iconst {g : GL} {d : Nat} {mi : MI} {pc : Nat} {ls : List (Option RV)} {st : List RV} {mc ms : Nat} {Post : RO → RM → Prop} {V : Nat → Nat → Prop} {lo hi nx : Nat} {μ : Mem} {F G : RG} {n : Int} (v : Int32) (hd : decode mi.2.1 pc = .ok (.iconst n, 1)) (hv : Int32.ofInt n = v) (k : Ev g d mi (pc + 1) ls (.inl (.int v) :: st) (G, nx) mc ms Post) : Ev g d mi pc ls st (G, nx) mc ms Post := by subst hv; exact ev_iconst hd k
theorem cv_bipush {g : GL} {d : Nat} {mi : MI} {pc : Nat} {ls : List (Option RV)} {st : List RV} {mc ms : Nat} {Post : RO → RM → Prop} {V : Nat → Nat → Prop} {lo hi nx : Nat} {μ : Mem} {F G : RG} {n : Int} (v : Int32) (hd : decode mi.2.1 pc = .ok (.bipush n, 2)) (hv : (Int8.ofInt n).toInt32 = v) (k : Ev g d mi (pc + 2) ls (.inl (.int v) :: st) (G, nx) mc ms Post) : Ev g d mi pc ls st (G, nx) mc ms Post := by subst hv; exact ev_bipush hd k
theorem cv_sipush {g : GL} {d : Nat} {mi : MI} {pc : Nat} {ls : List (Option RV)} {st : List RV} {mc ms : Nat} {Post : RO → RM → Prop} {V : Nat → Nat → Prop} {lo hi nx : Nat} {μ : Mem} {F G : RG} {n : Int} (v : Int32) (hd : decode mi.2.1 pc = .ok (.sipush n, 3)) (hv : (Int16.ofInt n).toInt32 = v) (k : Ev g d mi (pc + 3) ls (.inl (.int v) :: st) (G, nx) mc ms Post) : Ev g d mi pc ls st (G, nx) mc ms Post := by subst hv; exact ev_sipush hd k
theorem cv_istore_n {g : GL} {d : Nat} {mi : MI} {pc : Nat} {ls : List (Option RV)} {st : List RV} {mc ms : Nat} {Post : RO → RM → Prop} {V : Nat → Nat → Prop} {lo hi nx : Nat} {μ : Mem} {F G : RG} {k0 : Fin 4} {x : Int32} (ls' : List (Option RV)) (hd : decode mi.2.1 pc = .ok (.istore_n k0, 1)) (ok : okst ls (k0 : Nat) = true) (hn : (k0 : Nat) < mi.2.2.1) (hs : ls.set (k0 : Nat) (some (.inl (.int x))) = ls') (k : Ev g d mi (pc + 1) ls' st (G, nx) mc ms Post) : Ev g d mi pc ls (.inl (.int x) :: st) (G, nx) mc ms Post := by subst hs; exact ev_istore_n ok hn hd k
theorem cv_istore {g : GL} {d : Nat} {mi : MI} {pc : Nat} {ls : List (Option RV)} {st : List RV} {mc ms : Nat} {Post : RO → RM → Prop} {V : Nat → Nat → Prop} {lo hi nx : Nat} {μ : Mem} {F G : RG} {i : Nat} {x : Int32} (ls' : List (Option RV)) (hd : decode mi.2.1 pc = .ok (.istore i, 2)) (ok : okst ls i = true) (hn : i < mi.2.2.1) (hs : ls.set i (some (.inl (.int x))) = ls') (k : Ev g d mi (pc + 2) ls' st (G, nx) mc ms Post) : Ev g d mi pc ls (.inl (.int x) :: st) (G, nx) mc ms Post := by subst hs; exact ev_istore ok hn hd k
theorem cv_astore_n {g : GL} {d : Nat} {mi : MI} {pc : Nat} {ls : List (Option RV)} {st : List RV} {mc ms : Nat} {Post : RO → RM → Prop} {V : Nat → Nat → Prop} {lo hi nx : Nat} {μ : Mem} {F G : RG} {k0 : Fin 4} {r : Nat × Nat} (ls' : List (Option RV)) (hd : decode mi.2.1 pc = .ok (.astore_n k0, 1)) (ok : okst ls (k0 : Nat) = true) (hn : (k0 : Nat) < mi.2.2.1) (hs : ls.set (k0 : Nat) (some (.inr r)) = ls') (k : Ev g d mi (pc + 1) ls' st (G, nx) mc ms Post) : Ev g d mi pc ls (.inr r :: st) (G, nx) mc ms Post := by subst hs; exact ev_astore_n ok hn hd k
theorem cv_astore {g : GL} {d : Nat} {mi : MI} {pc : Nat} {ls : List (Option RV)} {st : List RV} {mc ms : Nat} {Post : RO → RM → Prop} {V : Nat → Nat → Prop} {lo hi nx : Nat} {μ : Mem} {F G : RG} {i : Nat} {r : Nat × Nat} (ls' : List (Option RV)) (hd : decode mi.2.1 pc = .ok (.astore i, 2)) (ok : okst ls i = true) (hn : i < mi.2.2.1) (hs : ls.set i (some (.inr r)) = ls') (k : Ev g d mi (pc + 2) ls' st (G, nx) mc ms Post) : Ev g d mi pc ls (.inr r :: st) (G, nx) mc ms Post := by subst hs; exact ev_astore ok hn hd k
theorem cv_iinc {g : GL} {d : Nat} {mi : MI} {pc : Nat} {ls : List (Option RV)} {st : List RV} {mc ms : Nat} {Post : RO → RM → Prop} {V : Nat → Nat → Prop} {lo hi nx : Nat} {μ : Mem} {F G : RG} {i : Nat} {n : Int} {x : Int32} (y : Int32) (ls' : List (Option RV)) (hd : decode mi.2.1 pc = .ok (.iinc i n, 3)) (hl0 : ls[i]? = some (some (.inl (.int x)))) (ok : okst ls i = true) (hn : i < mi.2.2.1) (hv : Int32.ofInt n = y) (hs : ls.set i (some (.inl (.int (x + y)))) = ls') (k : Ev g d mi (pc + 3) ls' st (G, nx) mc ms Post) : Ev g d mi pc ls st (G, nx) mc ms Post := by subst hv; subst hs; exact ev_iinc hl0 ok hn hd k
-- fields
theorem cv_get {g : GL} {d : Nat} {mi : MI} {pc : Nat} {ls : List (Option RV)} {st : List RV} {mc ms : Nat} {Post : RO → RM → Prop} {V : Nat → Nat → Prop} {lo hi nx : Nat} {μ : Mem} {F G : RG} {K j kf idx : Nat} {fin : Bool} {fty : FieldType} (v : RV) (hG : LM V lo hi μ F G) (hv : V K j) (fl : FL mi.1.cls idx (ixK K) kf fin fty) (hA : isA K = false) (hf : fld K j kf (μ K j kf) = v) (hd : decode mi.2.1 pc = .ok (.getfield idx, 3)) (k : Ev g d mi (pc + 3) ls (v :: st) (G, nx) mc ms Post) : Ev g d mi pc ls (.inr (0, off K j) :: st) (G, nx) mc ms Post := by
  have h1 := hG.1 K j hv
  unfold cel at h1
  rw [hA] at h1
  subst hf
  exact ev_getf (M := (G, nx)) fl h1 hd k
theorem cv_put {g : GL} {d : Nat} {mi : MI} {pc : Nat} {ls : List (Option RV)} {st : List RV} {mc ms : Nat} {Post : RO → RM → Prop} {V : Nat → Nat → Prop} {lo hi nx : Nat} {μ : Mem} {F G : RG} {K j kf idx : Nat} {fty : FieldType} (w : RV) (x : Int32) (hG : LM V lo hi μ F G) (hO : OKV V lo hi) (hv : V K j) (fl : FL mi.1.cls idx (ixK K) kf false fty) (hA : isA K = false) (hw : fld K j kf x = w) (ho : okv g fty w) (hd : decode mi.2.1 pc = .ok (.putfield idx, 3)) (k : ∀ G', LM V lo hi (st3 μ K j kf x) F G' → Ev g d mi (pc + 3) ls st (G', nx) mc ms Post) : Ev g d mi pc ls (w :: .inr (0, off K j) :: st) (G, nx) mc ms Post := by
  have h1 := hG.1 K j hv
  have h2 := hG.put (f := kf) (x := x) hO hv
  unfold cel at h1
  rw [hA] at h1 h2
  subst hw
  exact ev_putf (M := (G, nx)) fl h1 ho hd (k _ h2)
theorem cv_iald {g : GL} {d : Nat} {mi : MI} {pc : Nat} {ls : List (Option RV)} {st : List RV} {mc ms : Nat} {Post : RO → RM → Prop} {V : Nat → Nat → Prop} {lo hi nx : Nat} {μ : Mem} {F G : RG} {K j : Nat} {i : Int32} (hG : LM V lo hi μ F G) (hv : V K j) (hA : isA K = true) (hE : ixK K = 0) (hi0 : inb i (lenK K) = true) (hf : fld K j i.toNatClampNeg (μ K j i.toNatClampNeg) = .inl (.int (μ K j i.toNatClampNeg))) (hd : decode mi.2.1 pc = .ok (.iaload, 1)) (k : Ev g d mi (pc + 1) ls (.inl (.int (μ K j i.toNatClampNeg)) :: st) (G, nx) mc ms Post) : Ev g d mi pc ls (.inl (.int i) :: .inr (0, off K j) :: st) (G, nx) mc ms Post := by
  have h1 := hG.1 K j hv
  unfold cel at h1
  rw [hA, hE] at h1
  refine ev_iald (M := (G, nx)) h1 (inb_vp hi0) hd ?_
  show Ev g d mi (pc + 1) ls (fld K j i.toNatClampNeg (μ K j i.toNatClampNeg) :: st) (G, nx) mc ms Post
  rw [hf]; exact k
theorem cv_zald {g : GL} {d : Nat} {mi : MI} {pc : Nat} {ls : List (Option RV)} {st : List RV} {mc ms : Nat} {Post : RO → RM → Prop} {V : Nat → Nat → Prop} {lo hi nx : Nat} {μ : Mem} {F G : RG} {K j : Nat} {i : Int32} (hG : LM V lo hi μ F G) (hv : V K j) (hA : isA K = true) (hE : ixK K = 1) (hi0 : inb i (lenK K) = true) (hf : fld K j i.toNatClampNeg (μ K j i.toNatClampNeg) = .inl (.int (μ K j i.toNatClampNeg))) (hd : decode mi.2.1 pc = .ok (.baload, 1)) (k : Ev g d mi (pc + 1) ls (.inl (.int (μ K j i.toNatClampNeg)) :: st) (G, nx) mc ms Post) : Ev g d mi pc ls (.inl (.int i) :: .inr (0, off K j) :: st) (G, nx) mc ms Post := by
  have h1 := hG.1 K j hv
  unfold cel at h1
  rw [hA, hE] at h1
  refine ev_zald (M := (G, nx)) h1 (inb_vp hi0) hd ?_
  show Ev g d mi (pc + 1) ls (fld K j i.toNatClampNeg (μ K j i.toNatClampNeg) :: st) (G, nx) mc ms Post
  rw [hf]; exact k
theorem cv_aald {g : GL} {d : Nat} {mi : MI} {pc : Nat} {ls : List (Option RV)} {st : List RV} {mc ms : Nat} {Post : RO → RM → Prop} {V : Nat → Nat → Prop} {lo hi nx : Nat} {μ : Mem} {F G : RG} {K j ei : Nat} {C : String} {i : Int32} (v : RV) (hG : LM V lo hi μ F G) (hv : V K j) (hA : isA K = true) (hE : ixK K = ei) (he : rTy[ei]? = some (.object C)) (hi0 : inb i (lenK K) = true) (hf : fld K j i.toNatClampNeg (μ K j i.toNatClampNeg) = v) (hd : decode mi.2.1 pc = .ok (.aaload, 1)) (k : Ev g d mi (pc + 1) ls (v :: st) (G, nx) mc ms Post) : Ev g d mi pc ls (.inl (.int i) :: .inr (0, off K j) :: st) (G, nx) mc ms Post := by
  have h1 := hG.1 K j hv
  unfold cel at h1
  rw [hA, hE] at h1
  refine ev_aald (M := (G, nx)) he h1 (inb_vp hi0) hd ?_
  show Ev g d mi (pc + 1) ls (fld K j i.toNatClampNeg (μ K j i.toNatClampNeg) :: st) (G, nx) mc ms Post
  rw [hf]; exact k
theorem cv_iast {g : GL} {d : Nat} {mi : MI} {pc : Nat} {ls : List (Option RV)} {st : List RV} {mc ms : Nat} {Post : RO → RM → Prop} {V : Nat → Nat → Prop} {lo hi nx : Nat} {μ : Mem} {F G : RG} {K j : Nat} {i x : Int32} (hG : LM V lo hi μ F G) (hO : OKV V lo hi) (hv : V K j) (hA : isA K = true) (hE : ixK K = 0) (hi0 : inb i (lenK K) = true) (hf : fld K j i.toNatClampNeg x = .inl (.int x)) (hd : decode mi.2.1 pc = .ok (.iastore, 1)) (k : ∀ G', LM V lo hi (st3 μ K j i.toNatClampNeg x) F G' → Ev g d mi (pc + 1) ls st (G', nx) mc ms Post) : Ev g d mi pc ls (.inl (.int x) :: .inl (.int i) :: .inr (0, off K j) :: st) (G, nx) mc ms Post := by
  have h1 := hG.1 K j hv
  have h2 := hG.put (f := i.toNatClampNeg) (x := x) hO hv
  unfold cel at h1
  rw [hA, hE] at h1 h2
  rw [hf] at h2
  exact ev_iast (M := (G, nx)) h1 (inb_vp hi0) hd (k _ h2)
theorem cv_zast {g : GL} {d : Nat} {mi : MI} {pc : Nat} {ls : List (Option RV)} {st : List RV} {mc ms : Nat} {Post : RO → RM → Prop} {V : Nat → Nat → Prop} {lo hi nx : Nat} {μ : Mem} {F G : RG} {K j : Nat} {i x : Int32} (hG : LM V lo hi μ F G) (hO : OKV V lo hi) (hv : V K j) (hA : isA K = true) (hE : ixK K = 1) (hi0 : inb i (lenK K) = true) (hz : narrow .boolean (.int x) = .int x) (hf : fld K j i.toNatClampNeg x = .inl (.int x)) (hd : decode mi.2.1 pc = .ok (.bastore, 1)) (k : ∀ G', LM V lo hi (st3 μ K j i.toNatClampNeg x) F G' → Ev g d mi (pc + 1) ls st (G', nx) mc ms Post) : Ev g d mi pc ls (.inl (.int x) :: .inl (.int i) :: .inr (0, off K j) :: st) (G, nx) mc ms Post := by
  have h1 := hG.1 K j hv
  have h2 := hG.put (f := i.toNatClampNeg) (x := x) hO hv
  unfold cel at h1
  rw [hA, hE] at h1 h2
  rw [hf] at h2
  refine ev_zast (M := (G, nx)) h1 (inb_vp hi0) hd ?_
  rw [hz]
  exact k _ h2
theorem cv_aast {g : GL} {d : Nat} {mi : MI} {pc : Nat} {ls : List (Option RV)} {st : List RV} {mc ms : Nat} {Post : RO → RM → Prop} {V : Nat → Nat → Prop} {lo hi nx : Nat} {μ : Mem} {F G : RG} {K j ei K2 j2 : Nat} {C : String} {i : Int32} {r9 : vw_C} (x : Int32) (hG : LM V lo hi μ F G) (hO : OKV V lo hi) (hv : V K j) (hA : isA K = true) (hE : ixK K = ei) (h4 : 4 ≤ ei) (hv2 : V K2 j2) (hA2 : isA K2 = false) (hc : vwCl[ixK K2]? = some r9) (he : rTy[ei]? = some (.object r9.1)) (hi0 : inb i (lenK K) = true) (hf : fld K j i.toNatClampNeg x = .inr (0, off K2 j2)) (hd : decode mi.2.1 pc = .ok (.aastore, 1)) (k : ∀ G', LM V lo hi (st3 μ K j i.toNatClampNeg x) F G' → Ev g d mi (pc + 1) ls st (G', nx) mc ms Post) : Ev g d mi pc ls (.inr (0, off K2 j2) :: .inl (.int i) :: .inr (0, off K j) :: st) (G, nx) mc ms Post := by
  have h1 := hG.1 K j hv
  have h3 := hG.1 K2 j2 hv2
  have h2 := hG.put (f := i.toNatClampNeg) (x := x) hO hv
  unfold cel at h1 h3
  rw [hA, hE] at h1 h2
  rw [hA2] at h3
  rw [hf] at h2
  exact ev_aast (M := (G, nx)) (rv := (0, off K2 j2)) hc he h4 h1 h3 (inb_vp hi0) hd (k _ h2)
def cpb (sp dp n : Int32) (n0 n1 : Nat) : Bool := decide (¬ sp < 0 ∧ ¬ dp < 0 ∧ ¬ n < 0 ∧ sp.toNatClampNeg + n.toNatClampNeg ≤ n0 ∧ dp.toNatClampNeg + n.toNatClampNeg ≤ n1)
theorem cv_copy {g : GL} {d : Nat} {mi : MI} {pc : Nat} {ls : List (Option RV)} {st : List RV} {mc ms : Nat} {Post : RO → RM → Prop} {V : Nat → Nat → Prop} {lo hi nx : Nat} {μ : Mem} {F G : RG} {idx K1 j1 K2 j2 : Nat} {sp dp n : Int32} (hst : st.length ≤ 4) (hw : Cond.methodLink mi.1.cls idx arraycopyName ∈ lw_good ∧ Cond.native arraycopyName ∈ lw_good ∧ Cond.static arraycopyName ∈ lw_good ∧ Cond.initialized "java/lang/System" ∈ lw_good) (hG : LM V lo hi μ F G) (hO : OKV V lo hi) (hv1 : V K1 j1) (hv2 : V K2 j2) (hA1 : isA K1 = true) (hE1 : ixK K1 = 0) (hA2 : isA K2 = true) (hE2 : ixK K2 = 0) (hb0 : cpb sp dp n (lenK K1) (lenK K2) = true) (h1 : ∀ f x, fld K1 j1 f x = .inl (.int x)) (h2 : ∀ f x, fld K2 j2 f x = .inl (.int x)) (hd : decode mi.2.1 pc = .ok (.invokestatic idx, 3))
    (k : ∀ G', LM V lo hi (cp3 μ K1 j1 K2 j2 sp.toNatClampNeg dp.toNatClampNeg n.toNatClampNeg) F G' → Ev g d mi (pc + 3) ls st (G', nx) mc ms Post) : Ev g d mi pc ls (.inl (.int n) :: .inl (.int dp) :: .inr (0, off K2 j2) :: .inl (.int sp) :: .inr (0, off K1 j1) :: st) (G, nx) mc ms Post := by
  have e1 := hG.1 K1 j1 hv1
  have e2 := hG.1 K2 j2 hv2
  have e3 := hG.copy (sp := sp.toNatClampNeg) (dp := dp.toNatClampNeg) (n := n.toNatClampNeg) hO hv2 h1 h2
  unfold cel at e1 e2
  rw [hA1, hE1] at e1
  rw [hA2, hE2] at e2 e3
  obtain ⟨g1, g2, g3, g4, g5⟩ := of_decide_eq_true hb0
  exact ev_copy hst (ei := 0) rfl rfl hw e1 e2 g1 g2 g3 g4 g5 (fun i _ => ⟨_, h1 _ _, rfl⟩) hd (k _ e3)
theorem okv_int {g : GL} {x : Int32} : okv g .int (.inl (.int x)) := ⟨rfl, rfl⟩
theorem okv_bool {g : GL} {x : Int32} (h : nb .boolean x = true) : okv g .boolean (.inl (.int x)) := by
  have h1 := nb_eq h
  refine ⟨h1, ?_⟩
  have h2 : x = 0 ∨ x = 1 := by
    have h3 : Value.int (x &&& 1) = .int x := h1
    have h4 : x &&& 1 = x := by injection h3
    rw [← h4]
    have : ∀ b : BitVec 32, b &&& 1#32 = 0#32 ∨ b &&& 1#32 = 1#32 := by
      intro b
      rcases Nat.mod_two_eq_zero_or_one b.toNat with h | h
      · left; apply BitVec.eq_of_toNat_eq; simp [BitVec.toNat_and, Nat.and_one_is_mod, h]
      · right; apply BitVec.eq_of_toNat_eq; simp [BitVec.toNat_and, Nat.and_one_is_mod, h]
    rcases this x.toBitVec with h | h
    · left; exact Int32.toBitVec_inj.mp (by simpa using h)
    · right; exact Int32.toBitVec_inj.mp (by simpa using h)
  rcases h2 with rfl | rfl <;> rfl
theorem okv_obj {g : GL} {C : String} {r : Nat × Nat} : okv g (.object C) (.inr r) := by
  unfold okv
  rw [conc_ref]
  exact ⟨rfl, rfl⟩
-- what a call ends with
def pRO (v : RO) (M : RM) : RO → RM → Prop := fun o M' => o = v ∧ M' = M
def pRW (V : Nat → Nat → Prop) (lo hi : Nat) (v : RO) (μ : Mem) (F : RG) (nx : Nat) : RO → RM → Prop := fun o M' => o = v ∧ LM V lo hi μ F M'.1 ∧ M'.2 = nx
def rI (x : Int32) : RO := .inr (some (.inl (.int x)))
def rF (x : UInt32) : RO := .inr (some (.inl (.float x)))
def rD (x : UInt64) : RO := .inr (some (.inl (.double x)))
def rR (K j : Nat) : RO := .inr (some (.inr (0, off K j)))
def rV : RO := .inr none
theorem aft_ro {g : GL} {d : Nat} {mi : MI} {pc : Nat} {ls : List (Option RV)} {st : List RV} {mc ms : Nat} {Post : RO → RM → Prop} {w : Option RV} {M : RM} (k : Ev g d mi pc ls (w.toList ++ st) M mc ms Post) : Aft g d mi pc ls st mc ms (pRO (.inr w) M) Post :=
  ⟨fun v M1 h => by obtain ⟨h1, rfl⟩ := h; cases h1; exact k, fun E M1 h => by obtain ⟨h1, -⟩ := h; cases h1⟩
theorem aft_rw {g : GL} {d : Nat} {mi : MI} {pc : Nat} {ls : List (Option RV)} {st : List RV} {mc ms : Nat} {Post : RO → RM → Prop} {w : Option RV} {V : Nat → Nat → Prop} {lo hi nx : Nat} {μ : Mem} {F : RG} (k : ∀ G', LM V lo hi μ F G' → Ev g d mi pc ls (w.toList ++ st) (G', nx) mc ms Post) : Aft g d mi pc ls st mc ms (pRW V lo hi (.inr w) μ F nx) Post :=
  ⟨fun v M1 h => by obtain ⟨h1, h2, h3⟩ := h; cases h1; obtain ⟨G', n'⟩ := M1; cases h3; exact k G' h2, fun E M1 h => by obtain ⟨h1, -⟩ := h; cases h1⟩
theorem aft_th {g : GL} {d : Nat} {mi : MI} {pc : Nat} {ls : List (Option RV)} {st : List RV} {mc ms : Nat} {Post : RO → RM → Prop} {E : String} {M : RM} (hh : mi.2.2.2.2 = []) (k : Post (.inl E) M) : Aft g d mi pc ls st mc ms (pRO (.inl E) M) Post :=
  ⟨fun v M1 h => (by obtain ⟨h1, -⟩ := h; cases h1), fun E M1 h => by obtain ⟨h1, rfl⟩ := h; cases h1; exact ⟨hh, k⟩⟩
theorem pRW_of {V : Nat → Nat → Prop} {lo hi : Nat} {v : RO} {μ : Mem} {F G : RG} {nx : Nat} (h : LM V lo hi μ F G) : pRW V lo hi v μ F nx v (G, nx) := ⟨rfl, h, rfl⟩
def xISE : String := "java/lang/IllegalStateException"
def xIAE : String := "java/lang/IllegalArgumentException"
def xIOB : String := "java/lang/IndexOutOfBoundsException"
def xNSE : String := "java/util/NoSuchElementException"

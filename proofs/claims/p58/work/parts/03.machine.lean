
/-! The plain machine: values, cells and memory without addresses; Ev says that the machine goes on from here to an end with Post. -/
/-- words that a call does not carry by itself -/
def isBad : Cond → Bool
  | .methodLinkNest .. => true
  | .fieldLinkNest .. => true
  | .castable .. => true
  | .declares .. => true
  | .arrayOver (.object _) => true
  | _ => false
def lw_good : List Cond := lw_T.filter goodWord
theorem lw_g {w : Cond} (h : w ∈ lw_T) (hg : goodWord w = true) : w ∈ lw_good := List.mem_filter.mpr ⟨h, hg⟩
abbrev RV : Type := Value ⊕ (Nat × Nat)
abbrev RC : Type := Bool × Nat × Nat × (Nat → RV)
abbrev RG : Type := Nat → Option RC
abbrev RM : Type := RG × Nat
abbrev RO : Type := String ⊕ Option RV
/-- a method: its name, its bytes, its locals, what it returns, its handlers -/
abbrev MI : Type := MethodName × ByteArray × Nat × Option FieldType × List (Nat × Nat × Nat × Nat)
/-- launch; classes and slots; array classes; where new cells begin; where old cells lie; what old cells hold -/
abbrev GL : Type := Launch × va_G × (Nat → ClassId) × Nat × (Nat → Nat) × RG
/-- the types of the elements of arrays -/
def rTy : List FieldType := [.int, .boolean, .byte, .int, .object "ProphecyShop$Prophecy", .object "ProphecyShop$Owl", .object "ProphecyShop$Step", .object "ProphecyShop$Shop", .object "ProphecyShopLaw$Own"]
def rTys (g : GL) : List (ClassId × FieldType) := rTy.mapIdx (fun i t => (g.2.2.1 i, t))
def conc (g : GL) : RV → Value
  | .inl v => v
  | .inr (0, o) => .ref (g.2.2.2.1 + o)
  | .inr (_ + 1, i) => .ref (g.2.2.2.2.1 i)
def rdM (g : GL) (M : RM) : Nat × Nat → Option RC
  | (0, o) => M.1 o
  | (_ + 1, i) => g.2.2.2.2.2 i
def adM (g : GL) : Nat × Nat → Nat
  | (0, o) => g.2.2.2.1 + o
  | (_ + 1, i) => g.2.2.2.2.1 i
theorem conc_ref (g : GL) (r : Nat × Nat) : conc g (.inr r) = .ref (adM g r) := by
  obtain ⟨a, o⟩ := r
  cases a <;> rfl
/-- an array of n places as far as the machine sees: old arrays might be longer by a multiple of 2 ^ 32 -/
def szA (m n : Nat) : Prop := n ≤ m ∧ m.toInt32 = Int32.ofNat n
theorem szA.of {m n : Nat} (h : m = n) : szA m n := by subst h; exact ⟨Nat.le_refl _, rfl⟩
theorem szA.inn {m n : Nat} (h : szA m n) {i : Int32} (hi : vp_in i n) : ¬ (i < 0 ∨ m ≤ i.toNatClampNeg) := by
  rintro (z | z)
  · exact hi (Or.inl z)
  · exact hi (Or.inr (Nat.le_trans h.1 z))
/-- a cell of the heap holds what the plain cell says -/
def cellAt (g : GL) (U : State) (H : Heap) (a : Nat) (c : RC) : Prop := match c with
  | (false, ci, _, f) => ∃ (r : vw_C) (cell : Cell), vwCl[ci]? = some r ∧ H[a]? = some cell ∧ cell.cls = g.2.1.1 ci ∧ cell.vm ≠ .unknown ∧ cell.vm.isStatics = false ∧ (g.2.2.2.1 ≤ a → cell.vm = .none) ∧ ∀ k, k < r.2.2 → cell.slots[g.2.1.2 ci k]? = some (conc g (f k))
  | (true, ei, n, f) => ∃ (ty : FieldType) (cell : Cell), rTy[ei]? = some ty ∧ H[a]? = some cell ∧ U.isArrayOf cell ty ∧ cell.vm ≠ .unknown ∧ szA cell.slots.size n ∧ ((4 ≤ ei → cell.cls = g.2.2.1 ei) ∧ (ei = 2 → g.2.2.2.1 ≤ a → U.vm.findClass "[B" = some cell.cls)) ∧ (g.2.2.2.1 ≤ a → cell = arrV cell.cls n (fun j => conc g (f j))) ∧ ∀ j, j < n → cell.slots[j]? = some (conc g (f j))
def rA (g : GL) : Nat → Prop := fun q => g.2.2.2.1 ≤ q
/-- what of the tables and of the old cells stands at any time -/
def KU (g : GL) (U : State) (H : Heap) : Prop :=
  g.1.stackTraces = false ∧ va_K g.2.1 vwCl (rTys g) U ∧ vx_Zq Bundle.tN "UNASSIGNED_STACK" Bundle.steD (rA g) U H ∧ vx_Zq Bundle.tN "SUPPRESSED_SENTINEL" Bundle.listD (rA g) U H ∧
  (∀ q ∈ rStr, vk_R q.1 q.2.1 q.2.2.1 (g.2.2.2.2.1 q.2.2.2) U) ∧ ((∀ q ∈ rSta, va_Z q.1 q.2.1 q.2.2.1 (conc g q.2.2.2) (rA g) U H) ∧ va_Zq "jdk/internal/util/Preconditions" "SIOOBE_FORMATTER" "Ljava/util/function/BiFunction;" (rA g) U H) ∧
  (∀ i c, g.2.2.2.2.2 i = some c → g.2.2.2.2.1 i < g.2.2.2.1 ∧ cellAt g U H (g.2.2.2.2.1 i) c) ∧ g.2.2.2.1 ≤ H.size ∧ (∀ w ∈ lw_T, isBad w = true → w.before #[] U = true) ∧ ∀ q ∈ rNc, va_Nc q.1 q.2 U
/-- what stands of a method's activation -/
def CX (g : GL) (mi : MI) (d : Nat) (p : Program) (R : Room) (s : State) (m : MethodId) (args : Array Value) (meth : Method) (c : Code) : Prop :=
  p.tables.exec = Jvm.exec ∧ c.code = mi.2.1 ∧ c.maxLocals = mi.2.2.1 ∧ s.vm.findClass mi.1.cls = some m.cls ∧ meth.sig.returnType = mi.2.2.2.1 ∧ meth.locks = false ∧ c.exceptionTable.toList = tableOf mi.2.2.2.2 ∧
  (∀ w ∈ lw_good, w.before args s = true) ∧ KU g s s.heap ∧ 3 + d ≤ R.frames ∧ 150 + 35 * d ≤ R.locals ∧ meth.name = mi.1.name
/-- the plain memory is that of the heap -/
def MR (g : GL) (M : RM) (U : State) (H : Heap) : Prop := H.size = g.2.2.2.1 + M.2 ∧ ∀ o c, M.1 o = some c → cellAt g U H (g.2.2.2.1 + o) c
/-- the same, but that cells more may lie behind it -/
def ML (g : GL) (M : RM) (U : State) (H : Heap) : Prop := g.2.2.2.1 + M.2 ≤ H.size ∧ ∀ o c, M.1 o = some c → cellAt g U H (g.2.2.2.1 + o) c
def lvl (g : GL) : Nat → List (Option RV) → List (Nat × Value)
  | _, [] => []
  | i, none :: t => lvl g (i + 1) t
  | i, some v :: t => (i, conc g v) :: lvl g (i + 1) t
def QC (g : GL) (Post : RO → RM → Prop) : Array Value → State → Outcome → State → Prop := fun _ st o t => (∃ (v : Option RV) (M : RM), o = .returned (v.map (conc g)) ∧ Post (.inr v) M ∧ MR g M t t.heap) ∧ va_F (rA g) st t
def QX (g : GL) (Post : RO → RM → Prop) : String → State → State → Prop := fun E st t => (∃ M : RM, Post (.inl E) M ∧ ML g M t t.heap) ∧ va_F (rA g) st t
def Ev (g : GL) (d : Nat) (mi : MI) (pc : Nat) (ls : List (Option RV)) (st : List RV) (M : RM) (mc ms : Nat) (Post : RO → RM → Prop) : Prop :=
  ∀ (p : Program) (e : Env) (R : Room) (s : State) (m : MethodId) (args : Array Value) (below : List Frame) (meth : Method) (c : Code) (H : Heap) (locs : List Loc) (cells slots : Nat) (lsA : Array Slot) (TC TS : Nat),
    CX g mi d p R s m args meth c → MR g M s H → va_S (rA g) s.heap H locs → lv_has lsA mi.2.2.1 (lvl g 0 ls) → cells + mc ≤ TC → slots + ms ≤ TS → (TC ≤ R.cells ∧ TC ≤ 1000000) → TS ≤ R.slots →
    W p g.1 e R s m args below meth c H locs cells slots (vx_MQ below (QC g Post) (QX g Post) args s TC TS (rA g)) (F0 m pc lsA (st.map (conc g)))
theorem lvl_at {g : GL} : ∀ {ls : List (Option RV)} {i k : Nat} {v : RV}, ls[i]? = some (some v) → (k + i, conc g v) ∈ lvl g k ls
  | [], _, _, _, h => by simp at h
  | none :: t, 0, _, _, h => by simp at h
  | some w :: t, 0, k, v, h => by
    simp at h
    subst h
    exact List.mem_cons_self
  | none :: t, i + 1, k, v, h => by
    have := lvl_at (g := g) (k := k + 1) (show t[i]? = some (some v) from h)
    rw [show k + 1 + i = k + (i + 1) by omega] at this
    exact this
  | some w :: t, i + 1, k, v, h => by
    have := lvl_at (g := g) (k := k + 1) (show t[i]? = some (some v) from h)
    rw [show k + 1 + i = k + (i + 1) by omega] at this
    exact List.mem_cons_of_mem _ this
theorem lvl_of {g : GL} : ∀ {ls : List (Option RV)} {k : Nat} {q : Nat × Value}, q ∈ lvl g k ls → ∃ i v, ls[i]? = some (some v) ∧ q = (k + i, conc g v)
  | [], _, _, h => by simp [lvl] at h
  | none :: t, k, q, h => by
    obtain ⟨i, v, h1, h2⟩ := lvl_of (ls := t) (k := k + 1) h
    exact ⟨i + 1, v, h1, by rw [h2, show k + 1 + i = k + (i + 1) by omega]⟩
  | some w :: t, k, q, h => by
    rcases List.mem_cons.mp h with h | h
    · exact ⟨0, w, rfl, h⟩
    · obtain ⟨i, v, h1, h2⟩ := lvl_of (ls := t) (k := k + 1) h
      exact ⟨i + 1, v, h1, by rw [h2, show k + 1 + i = k + (i + 1) by omega]⟩
theorem lvh_at {g : GL} {lsA : Array Slot} {n i : Nat} {ls : List (Option RV)} {v : RV} (h : lv_has lsA n (lvl g 0 ls)) (hi : ls[i]? = some (some v)) : lsA[i]? = some (.val (conc g v)) := by
  have h1 := lvl_at (g := g) (k := 0) hi
  rw [Nat.zero_add] at h1
  exact h.2.2 _ h1
theorem lvh_mono {lsA : Array Slot} {n : Nat} {l l' : List (Nat × Value)} (h : lv_has lsA n l) (hs : ∀ q ∈ l', q ∈ l) : lv_has lsA n l' := ⟨h.1, h.2.1, fun q hq => h.2.2 q (hs q hq)⟩
/-- a value of two words below place i -/
def wide1 : Option (Option RV) → Bool
  | some (some (.inl (.long _))) => true
  | some (some (.inl (.double _))) => true
  | _ => false
def okst (ls : List (Option RV)) : Nat → Bool
  | 0 => true
  | i + 1 => !wide1 ls[i]?
theorem wide1_cat {g : GL} {v : RV} (h : wide1 (some (some v)) = false) : ¬ (conc g v).category = 2 := by
  cases v with
  | inl v => cases v <;> first | (simp [wide1] at h; done) | (simp [conc, Value.category])
  | inr r => obtain ⟨a, o⟩ := r; cases a <;> simp [conc, Value.category]
theorem lvh_store {g : GL} {n i : Nat} {ls : List (Option RV)} {v : RV} (ok : okst ls i = true) {lsA : Array Slot} (h : lv_has lsA n ((i, conc g v) :: (lvl g 0 ls).filter (fun q => !(q.1 == i) && !(q.1 + 1 == i && q.2.category == 2)))) : lv_has lsA n (lvl g 0 (ls.set i (some v))) := by
  refine lvh_mono h (fun q hq => ?_)
  obtain ⟨j, w, h1, rfl⟩ := lvl_of hq
  rw [Nat.zero_add]
  by_cases hj : j = i
  · subst hj
    rw [List.getElem?_set] at h1
    split at h1
    · split at h1
      · cases h1
        exact List.mem_cons_self
      · cases h1
    · exact absurd rfl (by assumption)
  · rw [List.getElem?_set_ne (Ne.symm hj)] at h1
    refine List.mem_cons_of_mem _ (List.mem_filter.mpr ⟨?_, ?_⟩)
    · have := lvl_at (g := g) (k := 0) h1
      rwa [Nat.zero_add] at this
    · have e1 : (j == i) = false := by simpa using hj
      by_cases e2 : j + 1 = i
      · subst e2
        have hc := wide1_cat (g := g) (v := w) (by have := ok; simp only [okst, h1] at this; simpa using this)
        simp [hc, e1]
      · simp [e1, e2]
theorem lvh_store2 {g : GL} {n i : Nat} {ls : List (Option RV)} {v : RV} (ok : okst ls i = true) {lsA : Array Slot} (h : lv_has lsA n ((i, conc g v) :: (lvl g 0 ls).filter (fun q => !(q.1 == i) && (!(q.1 == i + 1) && !(q.1 + 1 == i && q.2.category == 2))))) : lv_has lsA n (lvl g 0 ((ls.set i (some v)).set (i + 1) none)) := by
  refine lvh_mono h (fun q hq => ?_)
  obtain ⟨j, w, h1, rfl⟩ := lvl_of hq
  rw [Nat.zero_add]
  by_cases hj1 : j = i + 1
  · subst hj1
    rw [List.getElem?_set] at h1
    split at h1
    · split at h1 <;> cases h1
    · exact absurd rfl (by assumption)
  · rw [List.getElem?_set_ne (Ne.symm hj1)] at h1
    by_cases hj : j = i
    · subst hj
      rw [List.getElem?_set] at h1
      split at h1
      · split at h1
        · cases h1
          exact List.mem_cons_self
        · cases h1
      · exact absurd rfl (by assumption)
    · rw [List.getElem?_set_ne (Ne.symm hj)] at h1
      refine List.mem_cons_of_mem _ (List.mem_filter.mpr ⟨?_, ?_⟩)
      · have := lvl_at (g := g) (k := 0) h1
        rwa [Nat.zero_add] at this
      · have e1 : (j == i) = false := by simpa using hj
        have e3 : (j == i + 1) = false := by simpa using hj1
        by_cases e2 : j + 1 = i
        · subst e2
          have hc := wide1_cat (g := g) (v := w) (by have := ok; simp only [okst, h1] at this; simpa using this)
          simp [hc, e1]
          omega
        · simp [e1, e2, e3]
def one1 : RV → Bool
  | .inl (.long _) => false
  | .inl (.double _) => false
  | _ => true
theorem one1_cat {g : GL} {v : RV} (h : one1 v = true) : (conc g v).category = 1 := by
  cases v with
  | inl v => cases v <;> first | (simp [one1] at h; done) | rfl
  | inr r => obtain ⟨a, o⟩ := r; cases a <;> rfl
theorem ev_iconst {g : GL} {d : Nat} {mi : MI} {pc : Nat} {ls : List (Option RV)} {st : List RV} {M : RM} {mc ms : Nat} {Post : RO → RM → Prop} {n : Int} (hd : decode mi.2.1 pc = .ok (.iconst n, 1)) (k : Ev g d mi (pc + 1) ls (.inl (.int (Int32.ofInt n)) :: st) M mc ms Post) : Ev g d mi pc ls (st) M mc ms Post := by
  intro p e R s m args below meth c H locs cells slots lsA TC TS hC hM hS hl h1 h2 h3 h4
  obtain ⟨hx, hb, hml, hown, hr, hlk, hxt, hts, hK, hf, hlo, hnm⟩ := id hC
  exact lv_iconst hx hb hd rfl (k p e R s m args below meth c H locs cells slots lsA TC TS hC hM hS hl h1 h2 h3 h4)
theorem ev_bipush {g : GL} {d : Nat} {mi : MI} {pc : Nat} {ls : List (Option RV)} {st : List RV} {M : RM} {mc ms : Nat} {Post : RO → RM → Prop} {n : Int} (hd : decode mi.2.1 pc = .ok (.bipush n, 2)) (k : Ev g d mi (pc + 2) ls (.inl (.int (Int8.ofInt n).toInt32) :: st) M mc ms Post) : Ev g d mi pc ls (st) M mc ms Post := by
  intro p e R s m args below meth c H locs cells slots lsA TC TS hC hM hS hl h1 h2 h3 h4
  obtain ⟨hx, hb, hml, hown, hr, hlk, hxt, hts, hK, hf, hlo, hnm⟩ := id hC
  exact lv_bipush hx hb hd rfl (k p e R s m args below meth c H locs cells slots lsA TC TS hC hM hS hl h1 h2 h3 h4)
theorem ev_sipush {g : GL} {d : Nat} {mi : MI} {pc : Nat} {ls : List (Option RV)} {st : List RV} {M : RM} {mc ms : Nat} {Post : RO → RM → Prop} {n : Int} (hd : decode mi.2.1 pc = .ok (.sipush n, 3)) (k : Ev g d mi (pc + 3) ls (.inl (.int (Int16.ofInt n).toInt32) :: st) M mc ms Post) : Ev g d mi pc ls (st) M mc ms Post := by
  intro p e R s m args below meth c H locs cells slots lsA TC TS hC hM hS hl h1 h2 h3 h4
  obtain ⟨hx, hb, hml, hown, hr, hlk, hxt, hts, hK, hf, hlo, hnm⟩ := id hC
  exact lv_sipush hx hb hd rfl (k p e R s m args below meth c H locs cells slots lsA TC TS hC hM hS hl h1 h2 h3 h4)
theorem ev_lconst {g : GL} {d : Nat} {mi : MI} {pc : Nat} {ls : List (Option RV)} {st : List RV} {M : RM} {mc ms : Nat} {Post : RO → RM → Prop} {n : Fin 2} (hd : decode mi.2.1 pc = .ok (.lconst n, 1)) (k : Ev g d mi (pc + 1) ls (.inl (.long (Int64.ofNat (n : Nat))) :: st) M mc ms Post) : Ev g d mi pc ls (st) M mc ms Post := by
  intro p e R s m args below meth c H locs cells slots lsA TC TS hC hM hS hl h1 h2 h3 h4
  obtain ⟨hx, hb, hml, hown, hr, hlk, hxt, hts, hK, hf, hlo, hnm⟩ := id hC
  exact lv_lconst hx hb hd rfl (k p e R s m args below meth c H locs cells slots lsA TC TS hC hM hS hl h1 h2 h3 h4)
theorem ev_fconst0 {g : GL} {d : Nat} {mi : MI} {pc : Nat} {ls : List (Option RV)} {st : List RV} {M : RM} {mc ms : Nat} {Post : RO → RM → Prop}  (hd : decode mi.2.1 pc = .ok (.fconst 0, 1)) (k : Ev g d mi (pc + 1) ls (.inl (.float FP.fconst0) :: st) M mc ms Post) : Ev g d mi pc ls (st) M mc ms Post := by
  intro p e R s m args below meth c H locs cells slots lsA TC TS hC hM hS hl h1 h2 h3 h4
  obtain ⟨hx, hb, hml, hown, hr, hlk, hxt, hts, hK, hf, hlo, hnm⟩ := id hC
  exact lv_fconst0 hx hb hd (k p e R s m args below meth c H locs cells slots lsA TC TS hC hM hS hl h1 h2 h3 h4)
theorem ev_dconst0 {g : GL} {d : Nat} {mi : MI} {pc : Nat} {ls : List (Option RV)} {st : List RV} {M : RM} {mc ms : Nat} {Post : RO → RM → Prop}  (hd : decode mi.2.1 pc = .ok (.dconst 0, 1)) (k : Ev g d mi (pc + 1) ls (.inl (.double FP.dconst0) :: st) M mc ms Post) : Ev g d mi pc ls (st) M mc ms Post := by
  intro p e R s m args below meth c H locs cells slots lsA TC TS hC hM hS hl h1 h2 h3 h4
  obtain ⟨hx, hb, hml, hown, hr, hlk, hxt, hts, hK, hf, hlo, hnm⟩ := id hC
  exact lv_dconst0 hx hb hd (k p e R s m args below meth c H locs cells slots lsA TC TS hC hM hS hl h1 h2 h3 h4)
theorem ev_iload_n {g : GL} {d : Nat} {mi : MI} {pc : Nat} {ls : List (Option RV)} {st : List RV} {M : RM} {mc ms : Nat} {Post : RO → RM → Prop} {k0 : Fin 4} {x : Int32} (hl0 : ls[(k0 : Nat)]? = some (some (.inl (.int x)))) (hd : decode mi.2.1 pc = .ok (.iload_n k0, 1)) (k : Ev g d mi (pc + 1) ls (.inl (.int x) :: st) M mc ms Post) : Ev g d mi pc ls (st) M mc ms Post := by
  intro p e R s m args below meth c H locs cells slots lsA TC TS hC hM hS hl h1 h2 h3 h4
  obtain ⟨hx, hb, hml, hown, hr, hlk, hxt, hts, hK, hf, hlo, hnm⟩ := id hC
  exact lv_iload_n hx hb hd rfl (lvh_at hl hl0) (k p e R s m args below meth c H locs cells slots lsA TC TS hC hM hS hl h1 h2 h3 h4)
theorem ev_iload {g : GL} {d : Nat} {mi : MI} {pc : Nat} {ls : List (Option RV)} {st : List RV} {M : RM} {mc ms : Nat} {Post : RO → RM → Prop} {i : Nat} {x : Int32} (hl0 : ls[i]? = some (some (.inl (.int x)))) (hd : decode mi.2.1 pc = .ok (.iload i, 2)) (k : Ev g d mi (pc + 2) ls (.inl (.int x) :: st) M mc ms Post) : Ev g d mi pc ls (st) M mc ms Post := by
  intro p e R s m args below meth c H locs cells slots lsA TC TS hC hM hS hl h1 h2 h3 h4
  obtain ⟨hx, hb, hml, hown, hr, hlk, hxt, hts, hK, hf, hlo, hnm⟩ := id hC
  exact lv_iload hx hb hd (lvh_at hl hl0) (k p e R s m args below meth c H locs cells slots lsA TC TS hC hM hS hl h1 h2 h3 h4)
theorem ev_fload_n {g : GL} {d : Nat} {mi : MI} {pc : Nat} {ls : List (Option RV)} {st : List RV} {M : RM} {mc ms : Nat} {Post : RO → RM → Prop} {k0 : Fin 4} {x : UInt32} (hl0 : ls[(k0 : Nat)]? = some (some (.inl (.float x)))) (hd : decode mi.2.1 pc = .ok (.fload_n k0, 1)) (k : Ev g d mi (pc + 1) ls (.inl (.float x) :: st) M mc ms Post) : Ev g d mi pc ls (st) M mc ms Post := by
  intro p e R s m args below meth c H locs cells slots lsA TC TS hC hM hS hl h1 h2 h3 h4
  obtain ⟨hx, hb, hml, hown, hr, hlk, hxt, hts, hK, hf, hlo, hnm⟩ := id hC
  exact lv_fload_n hx hb hd rfl (lvh_at hl hl0) (k p e R s m args below meth c H locs cells slots lsA TC TS hC hM hS hl h1 h2 h3 h4)
theorem ev_fload {g : GL} {d : Nat} {mi : MI} {pc : Nat} {ls : List (Option RV)} {st : List RV} {M : RM} {mc ms : Nat} {Post : RO → RM → Prop} {i : Nat} {x : UInt32} (hl0 : ls[i]? = some (some (.inl (.float x)))) (hd : decode mi.2.1 pc = .ok (.fload i, 2)) (k : Ev g d mi (pc + 2) ls (.inl (.float x) :: st) M mc ms Post) : Ev g d mi pc ls (st) M mc ms Post := by
  intro p e R s m args below meth c H locs cells slots lsA TC TS hC hM hS hl h1 h2 h3 h4
  obtain ⟨hx, hb, hml, hown, hr, hlk, hxt, hts, hK, hf, hlo, hnm⟩ := id hC
  exact lv_fload hx hb hd (lvh_at hl hl0) (k p e R s m args below meth c H locs cells slots lsA TC TS hC hM hS hl h1 h2 h3 h4)
theorem ev_dload_n {g : GL} {d : Nat} {mi : MI} {pc : Nat} {ls : List (Option RV)} {st : List RV} {M : RM} {mc ms : Nat} {Post : RO → RM → Prop} {k0 : Fin 4} {x : UInt64} (hl0 : ls[(k0 : Nat)]? = some (some (.inl (.double x)))) (hd : decode mi.2.1 pc = .ok (.dload_n k0, 1)) (k : Ev g d mi (pc + 1) ls (.inl (.double x) :: st) M mc ms Post) : Ev g d mi pc ls (st) M mc ms Post := by
  intro p e R s m args below meth c H locs cells slots lsA TC TS hC hM hS hl h1 h2 h3 h4
  obtain ⟨hx, hb, hml, hown, hr, hlk, hxt, hts, hK, hf, hlo, hnm⟩ := id hC
  exact lv_dload_n hx hb hd rfl (lvh_at hl hl0) (k p e R s m args below meth c H locs cells slots lsA TC TS hC hM hS hl h1 h2 h3 h4)
theorem ev_dload {g : GL} {d : Nat} {mi : MI} {pc : Nat} {ls : List (Option RV)} {st : List RV} {M : RM} {mc ms : Nat} {Post : RO → RM → Prop} {i : Nat} {x : UInt64} (hl0 : ls[i]? = some (some (.inl (.double x)))) (hd : decode mi.2.1 pc = .ok (.dload i, 2)) (k : Ev g d mi (pc + 2) ls (.inl (.double x) :: st) M mc ms Post) : Ev g d mi pc ls (st) M mc ms Post := by
  intro p e R s m args below meth c H locs cells slots lsA TC TS hC hM hS hl h1 h2 h3 h4
  obtain ⟨hx, hb, hml, hown, hr, hlk, hxt, hts, hK, hf, hlo, hnm⟩ := id hC
  exact lv_dload hx hb hd (lvh_at hl hl0) (k p e R s m args below meth c H locs cells slots lsA TC TS hC hM hS hl h1 h2 h3 h4)
theorem ev_lload_n {g : GL} {d : Nat} {mi : MI} {pc : Nat} {ls : List (Option RV)} {st : List RV} {M : RM} {mc ms : Nat} {Post : RO → RM → Prop} {k0 : Fin 4} {x : Int64} (hl0 : ls[(k0 : Nat)]? = some (some (.inl (.long x)))) (hd : decode mi.2.1 pc = .ok (.lload_n k0, 1)) (k : Ev g d mi (pc + 1) ls (.inl (.long x) :: st) M mc ms Post) : Ev g d mi pc ls (st) M mc ms Post := by
  intro p e R s m args below meth c H locs cells slots lsA TC TS hC hM hS hl h1 h2 h3 h4
  obtain ⟨hx, hb, hml, hown, hr, hlk, hxt, hts, hK, hf, hlo, hnm⟩ := id hC
  exact lv_lload_n hx hb hd rfl (lvh_at hl hl0) (k p e R s m args below meth c H locs cells slots lsA TC TS hC hM hS hl h1 h2 h3 h4)
theorem ev_lload {g : GL} {d : Nat} {mi : MI} {pc : Nat} {ls : List (Option RV)} {st : List RV} {M : RM} {mc ms : Nat} {Post : RO → RM → Prop} {i : Nat} {x : Int64} (hl0 : ls[i]? = some (some (.inl (.long x)))) (hd : decode mi.2.1 pc = .ok (.lload i, 2)) (k : Ev g d mi (pc + 2) ls (.inl (.long x) :: st) M mc ms Post) : Ev g d mi pc ls (st) M mc ms Post := by
  intro p e R s m args below meth c H locs cells slots lsA TC TS hC hM hS hl h1 h2 h3 h4
  obtain ⟨hx, hb, hml, hown, hr, hlk, hxt, hts, hK, hf, hlo, hnm⟩ := id hC
  exact lv_lload hx hb hd (lvh_at hl hl0) (k p e R s m args below meth c H locs cells slots lsA TC TS hC hM hS hl h1 h2 h3 h4)
theorem ev_aload_n {g : GL} {d : Nat} {mi : MI} {pc : Nat} {ls : List (Option RV)} {st : List RV} {M : RM} {mc ms : Nat} {Post : RO → RM → Prop} {k0 : Fin 4} {r : Nat × Nat} (hl0 : ls[(k0 : Nat)]? = some (some (.inr r))) (hd : decode mi.2.1 pc = .ok (.aload_n k0, 1)) (k : Ev g d mi (pc + 1) ls (.inr r :: st) M mc ms Post) : Ev g d mi pc ls st M mc ms Post := by
  intro p e R s m args below meth c H locs cells slots lsA TC TS hC hM hS hl h1 h2 h3 h4
  obtain ⟨hx, hb, hml, hown, hr, hlk, hxt, hts, hK, hf, hlo, hnm⟩ := id hC
  have k9 := k p e R s m args below meth c H locs cells slots lsA TC TS hC hM hS hl h1 h2 h3 h4
  rw [List.map_cons, conc_ref] at k9
  exact lv_aload_n hx hb hd rfl (by rw [← conc_ref]; exact lvh_at hl hl0) k9
theorem ev_aload {g : GL} {d : Nat} {mi : MI} {pc : Nat} {ls : List (Option RV)} {st : List RV} {M : RM} {mc ms : Nat} {Post : RO → RM → Prop} {i : Nat} {r : Nat × Nat} (hl0 : ls[i]? = some (some (.inr r))) (hd : decode mi.2.1 pc = .ok (.aload i, 2)) (k : Ev g d mi (pc + 2) ls (.inr r :: st) M mc ms Post) : Ev g d mi pc ls st M mc ms Post := by
  intro p e R s m args below meth c H locs cells slots lsA TC TS hC hM hS hl h1 h2 h3 h4
  obtain ⟨hx, hb, hml, hown, hr, hlk, hxt, hts, hK, hf, hlo, hnm⟩ := id hC
  have k9 := k p e R s m args below meth c H locs cells slots lsA TC TS hC hM hS hl h1 h2 h3 h4
  rw [List.map_cons, conc_ref] at k9
  exact lv_aload hx hb hd (by rw [← conc_ref]; exact lvh_at hl hl0) k9
theorem ev_istore_n {g : GL} {d : Nat} {mi : MI} {pc : Nat} {ls : List (Option RV)} {st : List RV} {M : RM} {mc ms : Nat} {Post : RO → RM → Prop} {k0 : Fin 4} {x : Int32} (ok : okst ls (k0 : Nat) = true) (hn : (k0 : Nat) < mi.2.2.1) (hd : decode mi.2.1 pc = .ok (.istore_n k0, 1)) (k : Ev g d mi (pc + 1) (ls.set (k0 : Nat) (some (.inl (.int x)))) st M mc ms Post) : Ev g d mi pc ls (.inl (.int x) :: st) M mc ms Post := by
  intro p e R s m args below meth c H locs cells slots lsA TC TS hC hM hS hl h1 h2 h3 h4
  obtain ⟨hx, hb, hml, hown, hr, hlk, hxt, hts, hK, hf, hlo, hnm⟩ := id hC
  exact lv_istore_n hx hb hd rfl hl hn rfl (fun ls9 hl9 => k p e R s m args below meth c H locs cells slots ls9 TC TS hC hM hS (lvh_store ok hl9) h1 h2 h3 h4)
theorem ev_istore {g : GL} {d : Nat} {mi : MI} {pc : Nat} {ls : List (Option RV)} {st : List RV} {M : RM} {mc ms : Nat} {Post : RO → RM → Prop} {i : Nat} {x : Int32} (ok : okst ls i = true) (hn : i < mi.2.2.1) (hd : decode mi.2.1 pc = .ok (.istore i, 2)) (k : Ev g d mi (pc + 2) (ls.set i (some (.inl (.int x)))) st M mc ms Post) : Ev g d mi pc ls (.inl (.int x) :: st) M mc ms Post := by
  intro p e R s m args below meth c H locs cells slots lsA TC TS hC hM hS hl h1 h2 h3 h4
  obtain ⟨hx, hb, hml, hown, hr, hlk, hxt, hts, hK, hf, hlo, hnm⟩ := id hC
  exact lv_istore hx hb hd hl hn rfl (fun ls9 hl9 => k p e R s m args below meth c H locs cells slots ls9 TC TS hC hM hS (lvh_store ok hl9) h1 h2 h3 h4)
theorem ev_dstore_n {g : GL} {d : Nat} {mi : MI} {pc : Nat} {ls : List (Option RV)} {st : List RV} {M : RM} {mc ms : Nat} {Post : RO → RM → Prop} {k0 : Fin 4} {x : UInt64} (ok : okst ls (k0 : Nat) = true) (hn : (k0 : Nat) + 1 < mi.2.2.1) (hd : decode mi.2.1 pc = .ok (.dstore_n k0, 1)) (k : Ev g d mi (pc + 1) ((ls.set (k0 : Nat) (some (.inl (.double x)))).set ((k0 : Nat) + 1) none) st M mc ms Post) : Ev g d mi pc ls (.inl (.double x) :: st) M mc ms Post := by
  intro p e R s m args below meth c H locs cells slots lsA TC TS hC hM hS hl h1 h2 h3 h4
  obtain ⟨hx, hb, hml, hown, hr, hlk, hxt, hts, hK, hf, hlo, hnm⟩ := id hC
  exact lv_dstore_n hx hb hd rfl hl hn rfl (fun ls9 hl9 => k p e R s m args below meth c H locs cells slots ls9 TC TS hC hM hS (lvh_store2 ok hl9) h1 h2 h3 h4)
theorem ev_dstore {g : GL} {d : Nat} {mi : MI} {pc : Nat} {ls : List (Option RV)} {st : List RV} {M : RM} {mc ms : Nat} {Post : RO → RM → Prop} {i : Nat} {x : UInt64} (ok : okst ls i = true) (hn : i + 1 < mi.2.2.1) (hd : decode mi.2.1 pc = .ok (.dstore i, 2)) (k : Ev g d mi (pc + 2) ((ls.set i (some (.inl (.double x)))).set (i + 1) none) st M mc ms Post) : Ev g d mi pc ls (.inl (.double x) :: st) M mc ms Post := by
  intro p e R s m args below meth c H locs cells slots lsA TC TS hC hM hS hl h1 h2 h3 h4
  obtain ⟨hx, hb, hml, hown, hr, hlk, hxt, hts, hK, hf, hlo, hnm⟩ := id hC
  exact lv_dstore hx hb hd hl hn rfl (fun ls9 hl9 => k p e R s m args below meth c H locs cells slots ls9 TC TS hC hM hS (lvh_store2 ok hl9) h1 h2 h3 h4)
theorem ev_astore_n {g : GL} {d : Nat} {mi : MI} {pc : Nat} {ls : List (Option RV)} {st : List RV} {M : RM} {mc ms : Nat} {Post : RO → RM → Prop} {k0 : Fin 4} {r : Nat × Nat} (ok : okst ls (k0 : Nat) = true) (hn : (k0 : Nat) < mi.2.2.1) (hd : decode mi.2.1 pc = .ok (.astore_n k0, 1)) (k : Ev g d mi (pc + 1) (ls.set (k0 : Nat) (some (.inr r))) st M mc ms Post) : Ev g d mi pc ls (.inr r :: st) M mc ms Post := by
  intro p e R s m args below meth c H locs cells slots lsA TC TS hC hM hS hl h1 h2 h3 h4
  obtain ⟨hx, hb, hml, hown, hr, hlk, hxt, hts, hK, hf, hlo, hnm⟩ := id hC
  rw [List.map_cons, conc_ref]
  exact lv_astore_n hx hb hd rfl hl hn (by rw [← conc_ref]) (fun ls9 hl9 => k p e R s m args below meth c H locs cells slots ls9 TC TS hC hM hS (lvh_store ok hl9) h1 h2 h3 h4)
theorem ev_astore {g : GL} {d : Nat} {mi : MI} {pc : Nat} {ls : List (Option RV)} {st : List RV} {M : RM} {mc ms : Nat} {Post : RO → RM → Prop} {i : Nat} {r : Nat × Nat} (ok : okst ls i = true) (hn : i < mi.2.2.1) (hd : decode mi.2.1 pc = .ok (.astore i, 2)) (k : Ev g d mi (pc + 2) (ls.set i (some (.inr r))) st M mc ms Post) : Ev g d mi pc ls (.inr r :: st) M mc ms Post := by
  intro p e R s m args below meth c H locs cells slots lsA TC TS hC hM hS hl h1 h2 h3 h4
  obtain ⟨hx, hb, hml, hown, hr, hlk, hxt, hts, hK, hf, hlo, hnm⟩ := id hC
  rw [List.map_cons, conc_ref]
  exact lv_astore hx hb hd hl hn (by rw [← conc_ref]) (fun ls9 hl9 => k p e R s m args below meth c H locs cells slots ls9 TC TS hC hM hS (lvh_store ok hl9) h1 h2 h3 h4)
theorem ev_iinc {g : GL} {d : Nat} {mi : MI} {pc : Nat} {ls : List (Option RV)} {st : List RV} {M : RM} {mc ms : Nat} {Post : RO → RM → Prop} {i : Nat} {n : Int} {x : Int32} (hl0 : ls[i]? = some (some (.inl (.int x)))) (ok : okst ls i = true) (hn : i < mi.2.2.1) (hd : decode mi.2.1 pc = .ok (.iinc i n, 3)) (k : Ev g d mi (pc + 3) (ls.set i (some (.inl (.int (x + Int32.ofInt n))))) st M mc ms Post) : Ev g d mi pc ls st M mc ms Post := by
  intro p e R s m args below meth c H locs cells slots lsA TC TS hC hM hS hl h1 h2 h3 h4
  obtain ⟨hx, hb, hml, hown, hr, hlk, hxt, hts, hK, hf, hlo, hnm⟩ := id hC
  obtain ⟨k9, hk9⟩ := List.getElem?_of_mem (lvl_at (g := g) (k := 0) hl0)
  rw [Nat.zero_add] at hk9
  exact lv_iinc hx hb hd hl hk9 rfl hn rfl (fun ls9 hl9 => k p e R s m args below meth c H locs cells slots ls9 TC TS hC hM hS (lvh_store (v := .inl (.int (x + Int32.ofInt n))) ok hl9) h1 h2 h3 h4)
theorem ev_iadd {g : GL} {d : Nat} {mi : MI} {pc : Nat} {ls : List (Option RV)} {st : List RV} {M : RM} {mc ms : Nat} {Post : RO → RM → Prop} {x y : Int32} (hd : decode mi.2.1 pc = .ok (.iadd, 1)) (k : Ev g d mi (pc + 1) ls (.inl (.int (x + y)) :: st) M mc ms Post) : Ev g d mi pc ls (.inl (.int y) :: .inl (.int x) :: st) M mc ms Post := by
  intro p e R s m args below meth c H locs cells slots lsA TC TS hC hM hS hl h1 h2 h3 h4
  obtain ⟨hx, hb, hml, hown, hr, hlk, hxt, hts, hK, hf, hlo, hnm⟩ := id hC
  exact lv_iadd hx hb hd (k p e R s m args below meth c H locs cells slots lsA TC TS hC hM hS hl h1 h2 h3 h4)
theorem ev_isub {g : GL} {d : Nat} {mi : MI} {pc : Nat} {ls : List (Option RV)} {st : List RV} {M : RM} {mc ms : Nat} {Post : RO → RM → Prop} {x y : Int32} (hd : decode mi.2.1 pc = .ok (.isub, 1)) (k : Ev g d mi (pc + 1) ls (.inl (.int (x - y)) :: st) M mc ms Post) : Ev g d mi pc ls (.inl (.int y) :: .inl (.int x) :: st) M mc ms Post := by
  intro p e R s m args below meth c H locs cells slots lsA TC TS hC hM hS hl h1 h2 h3 h4
  obtain ⟨hx, hb, hml, hown, hr, hlk, hxt, hts, hK, hf, hlo, hnm⟩ := id hC
  exact lv_isub hx hb hd (k p e R s m args below meth c H locs cells slots lsA TC TS hC hM hS hl h1 h2 h3 h4)
theorem ev_imul {g : GL} {d : Nat} {mi : MI} {pc : Nat} {ls : List (Option RV)} {st : List RV} {M : RM} {mc ms : Nat} {Post : RO → RM → Prop} {x y : Int32} (hd : decode mi.2.1 pc = .ok (.imul, 1)) (k : Ev g d mi (pc + 1) ls (.inl (.int (x * y)) :: st) M mc ms Post) : Ev g d mi pc ls (.inl (.int y) :: .inl (.int x) :: st) M mc ms Post := by
  intro p e R s m args below meth c H locs cells slots lsA TC TS hC hM hS hl h1 h2 h3 h4
  obtain ⟨hx, hb, hml, hown, hr, hlk, hxt, hts, hK, hf, hlo, hnm⟩ := id hC
  exact lv_imul hx hb hd (k p e R s m args below meth c H locs cells slots lsA TC TS hC hM hS hl h1 h2 h3 h4)
theorem ev_iand {g : GL} {d : Nat} {mi : MI} {pc : Nat} {ls : List (Option RV)} {st : List RV} {M : RM} {mc ms : Nat} {Post : RO → RM → Prop} {x y : Int32} (hd : decode mi.2.1 pc = .ok (.iand, 1)) (k : Ev g d mi (pc + 1) ls (.inl (.int (x &&& y)) :: st) M mc ms Post) : Ev g d mi pc ls (.inl (.int y) :: .inl (.int x) :: st) M mc ms Post := by
  intro p e R s m args below meth c H locs cells slots lsA TC TS hC hM hS hl h1 h2 h3 h4
  obtain ⟨hx, hb, hml, hown, hr, hlk, hxt, hts, hK, hf, hlo, hnm⟩ := id hC
  exact lv_iand hx hb hd (k p e R s m args below meth c H locs cells slots lsA TC TS hC hM hS hl h1 h2 h3 h4)
theorem ev_ior {g : GL} {d : Nat} {mi : MI} {pc : Nat} {ls : List (Option RV)} {st : List RV} {M : RM} {mc ms : Nat} {Post : RO → RM → Prop} {x y : Int32} (hd : decode mi.2.1 pc = .ok (.ior, 1)) (k : Ev g d mi (pc + 1) ls (.inl (.int (x ||| y)) :: st) M mc ms Post) : Ev g d mi pc ls (.inl (.int y) :: .inl (.int x) :: st) M mc ms Post := by
  intro p e R s m args below meth c H locs cells slots lsA TC TS hC hM hS hl h1 h2 h3 h4
  obtain ⟨hx, hb, hml, hown, hr, hlk, hxt, hts, hK, hf, hlo, hnm⟩ := id hC
  exact lv_ior hx hb hd (k p e R s m args below meth c H locs cells slots lsA TC TS hC hM hS hl h1 h2 h3 h4)
theorem ev_ixor {g : GL} {d : Nat} {mi : MI} {pc : Nat} {ls : List (Option RV)} {st : List RV} {M : RM} {mc ms : Nat} {Post : RO → RM → Prop} {x y : Int32} (hd : decode mi.2.1 pc = .ok (.ixor, 1)) (k : Ev g d mi (pc + 1) ls (.inl (.int (x ^^^ y)) :: st) M mc ms Post) : Ev g d mi pc ls (.inl (.int y) :: .inl (.int x) :: st) M mc ms Post := by
  intro p e R s m args below meth c H locs cells slots lsA TC TS hC hM hS hl h1 h2 h3 h4
  obtain ⟨hx, hb, hml, hown, hr, hlk, hxt, hts, hK, hf, hlo, hnm⟩ := id hC
  exact lv_ixor hx hb hd (k p e R s m args below meth c H locs cells slots lsA TC TS hC hM hS hl h1 h2 h3 h4)
theorem ev_ishl {g : GL} {d : Nat} {mi : MI} {pc : Nat} {ls : List (Option RV)} {st : List RV} {M : RM} {mc ms : Nat} {Post : RO → RM → Prop} {x y : Int32} (hd : decode mi.2.1 pc = .ok (.ishl, 1)) (k : Ev g d mi (pc + 1) ls (.inl (.int (x <<< (y &&& 31))) :: st) M mc ms Post) : Ev g d mi pc ls (.inl (.int y) :: .inl (.int x) :: st) M mc ms Post := by
  intro p e R s m args below meth c H locs cells slots lsA TC TS hC hM hS hl h1 h2 h3 h4
  obtain ⟨hx, hb, hml, hown, hr, hlk, hxt, hts, hK, hf, hlo, hnm⟩ := id hC
  exact lv_ishl hx hb hd (k p e R s m args below meth c H locs cells slots lsA TC TS hC hM hS hl h1 h2 h3 h4)
theorem ev_ishr {g : GL} {d : Nat} {mi : MI} {pc : Nat} {ls : List (Option RV)} {st : List RV} {M : RM} {mc ms : Nat} {Post : RO → RM → Prop} {x y : Int32} (hd : decode mi.2.1 pc = .ok (.ishr, 1)) (k : Ev g d mi (pc + 1) ls (.inl (.int (x >>> (y &&& 31))) :: st) M mc ms Post) : Ev g d mi pc ls (.inl (.int y) :: .inl (.int x) :: st) M mc ms Post := by
  intro p e R s m args below meth c H locs cells slots lsA TC TS hC hM hS hl h1 h2 h3 h4
  obtain ⟨hx, hb, hml, hown, hr, hlk, hxt, hts, hK, hf, hlo, hnm⟩ := id hC
  exact lv_ishr hx hb hd (k p e R s m args below meth c H locs cells slots lsA TC TS hC hM hS hl h1 h2 h3 h4)
theorem ev_iushr {g : GL} {d : Nat} {mi : MI} {pc : Nat} {ls : List (Option RV)} {st : List RV} {M : RM} {mc ms : Nat} {Post : RO → RM → Prop} {x y : Int32} (hd : decode mi.2.1 pc = .ok (.iushr, 1)) (k : Ev g d mi (pc + 1) ls (.inl (.int (x.toUInt32 >>> (y.toUInt32 &&& Int32.toUInt32 31)).toInt32) :: st) M mc ms Post) : Ev g d mi pc ls (.inl (.int y) :: .inl (.int x) :: st) M mc ms Post := by
  intro p e R s m args below meth c H locs cells slots lsA TC TS hC hM hS hl h1 h2 h3 h4
  obtain ⟨hx, hb, hml, hown, hr, hlk, hxt, hts, hK, hf, hlo, hnm⟩ := id hC
  exact lv_iushr hx hb hd rfl (k p e R s m args below meth c H locs cells slots lsA TC TS hC hM hS hl h1 h2 h3 h4)
theorem ev_idiv {g : GL} {d : Nat} {mi : MI} {pc : Nat} {ls : List (Option RV)} {st : List RV} {M : RM} {mc ms : Nat} {Post : RO → RM → Prop} {x y : Int32} (hne : ¬ y = 0) (hd : decode mi.2.1 pc = .ok (.idiv, 1)) (k : Ev g d mi (pc + 1) ls (.inl (.int (x / y)) :: st) M mc ms Post) : Ev g d mi pc ls (.inl (.int y) :: .inl (.int x) :: st) M mc ms Post := by
  intro p e R s m args below meth c H locs cells slots lsA TC TS hC hM hS hl h1 h2 h3 h4
  obtain ⟨hx, hb, hml, hown, hr, hlk, hxt, hts, hK, hf, hlo, hnm⟩ := id hC
  exact lv_idiv hx hb hd hne (k p e R s m args below meth c H locs cells slots lsA TC TS hC hM hS hl h1 h2 h3 h4)
theorem ev_irem {g : GL} {d : Nat} {mi : MI} {pc : Nat} {ls : List (Option RV)} {st : List RV} {M : RM} {mc ms : Nat} {Post : RO → RM → Prop} {x y : Int32} (hne : ¬ y = 0) (hd : decode mi.2.1 pc = .ok (.irem, 1)) (k : Ev g d mi (pc + 1) ls (.inl (.int (x - x / y * y)) :: st) M mc ms Post) : Ev g d mi pc ls (.inl (.int y) :: .inl (.int x) :: st) M mc ms Post := by
  intro p e R s m args below meth c H locs cells slots lsA TC TS hC hM hS hl h1 h2 h3 h4
  obtain ⟨hx, hb, hml, hown, hr, hlk, hxt, hts, hK, hf, hlo, hnm⟩ := id hC
  exact lv_irem hx hb hd hne (k p e R s m args below meth c H locs cells slots lsA TC TS hC hM hS hl h1 h2 h3 h4)
theorem ev_ineg {g : GL} {d : Nat} {mi : MI} {pc : Nat} {ls : List (Option RV)} {st : List RV} {M : RM} {mc ms : Nat} {Post : RO → RM → Prop} {x : Int32} (hd : decode mi.2.1 pc = .ok (.ineg, 1)) (k : Ev g d mi (pc + 1) ls (.inl (.int (-x)) :: st) M mc ms Post) : Ev g d mi pc ls (.inl (.int x) :: st) M mc ms Post := by
  intro p e R s m args below meth c H locs cells slots lsA TC TS hC hM hS hl h1 h2 h3 h4
  obtain ⟨hx, hb, hml, hown, hr, hlk, hxt, hts, hK, hf, hlo, hnm⟩ := id hC
  exact lv_ineg hx hb hd (k p e R s m args below meth c H locs cells slots lsA TC TS hC hM hS hl h1 h2 h3 h4)
theorem ev_i2l {g : GL} {d : Nat} {mi : MI} {pc : Nat} {ls : List (Option RV)} {st : List RV} {M : RM} {mc ms : Nat} {Post : RO → RM → Prop} {x : Int32} (hd : decode mi.2.1 pc = .ok (.i2l, 1)) (k : Ev g d mi (pc + 1) ls (.inl (.long x.toInt64) :: st) M mc ms Post) : Ev g d mi pc ls (.inl (.int x) :: st) M mc ms Post := by
  intro p e R s m args below meth c H locs cells slots lsA TC TS hC hM hS hl h1 h2 h3 h4
  obtain ⟨hx, hb, hml, hown, hr, hlk, hxt, hts, hK, hf, hlo, hnm⟩ := id hC
  exact lv_i2l hx hb hd rfl (k p e R s m args below meth c H locs cells slots lsA TC TS hC hM hS hl h1 h2 h3 h4)
theorem ev_i2c {g : GL} {d : Nat} {mi : MI} {pc : Nat} {ls : List (Option RV)} {st : List RV} {M : RM} {mc ms : Nat} {Post : RO → RM → Prop} {x : Int32} (hd : decode mi.2.1 pc = .ok (.i2c, 1)) (k : Ev g d mi (pc + 1) ls (.inl (.int (x.toUInt32 % 65536).toInt32) :: st) M mc ms Post) : Ev g d mi pc ls (.inl (.int x) :: st) M mc ms Post := by
  intro p e R s m args below meth c H locs cells slots lsA TC TS hC hM hS hl h1 h2 h3 h4
  obtain ⟨hx, hb, hml, hown, hr, hlk, hxt, hts, hK, hf, hlo, hnm⟩ := id hC
  exact lv_i2c hx hb hd rfl (k p e R s m args below meth c H locs cells slots lsA TC TS hC hM hS hl h1 h2 h3 h4)
theorem ev_i2b {g : GL} {d : Nat} {mi : MI} {pc : Nat} {ls : List (Option RV)} {st : List RV} {M : RM} {mc ms : Nat} {Post : RO → RM → Prop} {x : Int32} (hd : decode mi.2.1 pc = .ok (.i2b, 1)) (k : Ev g d mi (pc + 1) ls (.inl (.int x.toInt8.toInt32) :: st) M mc ms Post) : Ev g d mi pc ls (.inl (.int x) :: st) M mc ms Post := by
  intro p e R s m args below meth c H locs cells slots lsA TC TS hC hM hS hl h1 h2 h3 h4
  obtain ⟨hx, hb, hml, hown, hr, hlk, hxt, hts, hK, hf, hlo, hnm⟩ := id hC
  exact lv_i2b hx hb hd rfl (k p e R s m args below meth c H locs cells slots lsA TC TS hC hM hS hl h1 h2 h3 h4)
theorem ev_i2f {g : GL} {d : Nat} {mi : MI} {pc : Nat} {ls : List (Option RV)} {st : List RV} {M : RM} {mc ms : Nat} {Post : RO → RM → Prop} {x : Int32} (hd : decode mi.2.1 pc = .ok (.i2f, 1)) (k : Ev g d mi (pc + 1) ls (.inl (.float (FP.i2f x)) :: st) M mc ms Post) : Ev g d mi pc ls (.inl (.int x) :: st) M mc ms Post := by
  intro p e R s m args below meth c H locs cells slots lsA TC TS hC hM hS hl h1 h2 h3 h4
  obtain ⟨hx, hb, hml, hown, hr, hlk, hxt, hts, hK, hf, hlo, hnm⟩ := id hC
  exact lv_i2f hx hb hd (k p e R s m args below meth c H locs cells slots lsA TC TS hC hM hS hl h1 h2 h3 h4)
theorem ev_i2d {g : GL} {d : Nat} {mi : MI} {pc : Nat} {ls : List (Option RV)} {st : List RV} {M : RM} {mc ms : Nat} {Post : RO → RM → Prop} {x : Int32} (hd : decode mi.2.1 pc = .ok (.i2d, 1)) (k : Ev g d mi (pc + 1) ls (.inl (.double (FP.i2d x)) :: st) M mc ms Post) : Ev g d mi pc ls (.inl (.int x) :: st) M mc ms Post := by
  intro p e R s m args below meth c H locs cells slots lsA TC TS hC hM hS hl h1 h2 h3 h4
  obtain ⟨hx, hb, hml, hown, hr, hlk, hxt, hts, hK, hf, hlo, hnm⟩ := id hC
  exact lv_i2d hx hb hd (k p e R s m args below meth c H locs cells slots lsA TC TS hC hM hS hl h1 h2 h3 h4)
theorem ev_fdiv {g : GL} {d : Nat} {mi : MI} {pc : Nat} {ls : List (Option RV)} {st : List RV} {M : RM} {mc ms : Nat} {Post : RO → RM → Prop} {x y : UInt32} (hne : vf_n32 (FP.fdiv x y)) (hd : decode mi.2.1 pc = .ok (.fdiv, 1)) (k : Ev g d mi (pc + 1) ls (.inl (.float (FP.fdiv x y)) :: st) M mc ms Post) : Ev g d mi pc ls (.inl (.float y) :: .inl (.float x) :: st) M mc ms Post := by
  intro p e R s m args below meth c H locs cells slots lsA TC TS hC hM hS hl h1 h2 h3 h4
  obtain ⟨hx, hb, hml, hown, hr, hlk, hxt, hts, hK, hf, hlo, hnm⟩ := id hC
  exact lv_fdiv hx hb hd hne (k p e R s m args below meth c H locs cells slots lsA TC TS hC hM hS hl h1 h2 h3 h4)
theorem ev_ddiv {g : GL} {d : Nat} {mi : MI} {pc : Nat} {ls : List (Option RV)} {st : List RV} {M : RM} {mc ms : Nat} {Post : RO → RM → Prop} {x y : UInt64} (hne : vf_n64 (FP.ddiv x y)) (hd : decode mi.2.1 pc = .ok (.ddiv, 1)) (k : Ev g d mi (pc + 1) ls (.inl (.double (FP.ddiv x y)) :: st) M mc ms Post) : Ev g d mi pc ls (.inl (.double y) :: .inl (.double x) :: st) M mc ms Post := by
  intro p e R s m args below meth c H locs cells slots lsA TC TS hC hM hS hl h1 h2 h3 h4
  obtain ⟨hx, hb, hml, hown, hr, hlk, hxt, hts, hK, hf, hlo, hnm⟩ := id hC
  exact lv_ddiv hx hb hd hne (k p e R s m args below meth c H locs cells slots lsA TC TS hC hM hS hl h1 h2 h3 h4)
theorem ev_f2d {g : GL} {d : Nat} {mi : MI} {pc : Nat} {ls : List (Option RV)} {st : List RV} {M : RM} {mc ms : Nat} {Post : RO → RM → Prop} {x : UInt32} (hne : vf_n64 (FP.f2d x)) (hd : decode mi.2.1 pc = .ok (.f2d, 1)) (k : Ev g d mi (pc + 1) ls (.inl (.double (FP.f2d x)) :: st) M mc ms Post) : Ev g d mi pc ls (.inl (.float x) :: st) M mc ms Post := by
  intro p e R s m args below meth c H locs cells slots lsA TC TS hC hM hS hl h1 h2 h3 h4
  obtain ⟨hx, hb, hml, hown, hr, hlk, hxt, hts, hK, hf, hlo, hnm⟩ := id hC
  exact lv_f2d hx hb hd hne (k p e R s m args below meth c H locs cells slots lsA TC TS hC hM hS hl h1 h2 h3 h4)
theorem ev_dcmp {g : GL} {d : Nat} {mi : MI} {pc : Nat} {ls : List (Option RV)} {st : List RV} {M : RM} {mc ms : Nat} {Post : RO → RM → Prop} {x y : UInt64} {op : CmpOp} (hd : decode mi.2.1 pc = .ok (.dcmp op, 1)) (k : Ev g d mi (pc + 1) ls (.inl (.int (Op.cmpValue (FP.dcmp x y) op)) :: st) M mc ms Post) : Ev g d mi pc ls (.inl (.double y) :: .inl (.double x) :: st) M mc ms Post := by
  intro p e R s m args below meth c H locs cells slots lsA TC TS hC hM hS hl h1 h2 h3 h4
  obtain ⟨hx, hb, hml, hown, hr, hlk, hxt, hts, hK, hf, hlo, hnm⟩ := id hC
  exact lv_dcmp hx hb hd (k p e R s m args below meth c H locs cells slots lsA TC TS hC hM hS hl h1 h2 h3 h4)
theorem ev_dup {g : GL} {d : Nat} {mi : MI} {pc : Nat} {ls : List (Option RV)} {st : List RV} {M : RM} {mc ms : Nat} {Post : RO → RM → Prop} {v : RV} (o1 : one1 v = true) (hd : decode mi.2.1 pc = .ok (.dup, 1)) (k : Ev g d mi (pc + 1) ls (v :: v :: st) M mc ms Post) : Ev g d mi pc ls (v :: st) M mc ms Post := by
  intro p e R s m args below meth c H locs cells slots lsA TC TS hC hM hS hl h1 h2 h3 h4
  obtain ⟨hx, hb, hml, hown, hr, hlk, hxt, hts, hK, hf, hlo, hnm⟩ := id hC
  exact lv_dup hx hb hd (one1_cat o1) (k p e R s m args below meth c H locs cells slots lsA TC TS hC hM hS hl h1 h2 h3 h4)
theorem ev_pop {g : GL} {d : Nat} {mi : MI} {pc : Nat} {ls : List (Option RV)} {st : List RV} {M : RM} {mc ms : Nat} {Post : RO → RM → Prop} {v : RV} (o1 : one1 v = true) (hd : decode mi.2.1 pc = .ok (.pop, 1)) (k : Ev g d mi (pc + 1) ls (st) M mc ms Post) : Ev g d mi pc ls (v :: st) M mc ms Post := by
  intro p e R s m args below meth c H locs cells slots lsA TC TS hC hM hS hl h1 h2 h3 h4
  obtain ⟨hx, hb, hml, hown, hr, hlk, hxt, hts, hK, hf, hlo, hnm⟩ := id hC
  exact lv_pop hx hb hd (one1_cat o1) (k p e R s m args below meth c H locs cells slots lsA TC TS hC hM hS hl h1 h2 h3 h4)
theorem ev_dup_x1 {g : GL} {d : Nat} {mi : MI} {pc : Nat} {ls : List (Option RV)} {st : List RV} {M : RM} {mc ms : Nat} {Post : RO → RM → Prop} {v w : RV} (o1 : one1 v = true) (o2 : one1 w = true) (hd : decode mi.2.1 pc = .ok (.dup_x1, 1)) (k : Ev g d mi (pc + 1) ls (v :: w :: v :: st) M mc ms Post) : Ev g d mi pc ls (v :: w :: st) M mc ms Post := by
  intro p e R s m args below meth c H locs cells slots lsA TC TS hC hM hS hl h1 h2 h3 h4
  obtain ⟨hx, hb, hml, hown, hr, hlk, hxt, hts, hK, hf, hlo, hnm⟩ := id hC
  exact lv_dup_x1 hx hb hd (one1_cat o1) (one1_cat o2) (k p e R s m args below meth c H locs cells slots lsA TC TS hC hM hS hl h1 h2 h3 h4)
theorem ev_dup2 {g : GL} {d : Nat} {mi : MI} {pc : Nat} {ls : List (Option RV)} {st : List RV} {M : RM} {mc ms : Nat} {Post : RO → RM → Prop} {v w : RV} (o1 : one1 v = true) (o2 : one1 w = true) (hd : decode mi.2.1 pc = .ok (.dup2, 1)) (k : Ev g d mi (pc + 1) ls (v :: w :: v :: w :: st) M mc ms Post) : Ev g d mi pc ls (v :: w :: st) M mc ms Post := by
  intro p e R s m args below meth c H locs cells slots lsA TC TS hC hM hS hl h1 h2 h3 h4
  obtain ⟨hx, hb, hml, hown, hr, hlk, hxt, hts, hK, hf, hlo, hnm⟩ := id hC
  exact lv_dup2_11 hx hb hd (one1_cat o1) (one1_cat o2) (k p e R s m args below meth c H locs cells slots lsA TC TS hC hM hS hl h1 h2 h3 h4)
theorem ev_goto {g : GL} {d : Nat} {mi : MI} {pc : Nat} {ls : List (Option RV)} {st : List RV} {M : RM} {mc ms : Nat} {Post : RO → RM → Prop} {off : Int} {tgt : Nat} (ht : (pc : Int) + off = (tgt : Int)) (hd : decode mi.2.1 pc = .ok (.goto off, 3)) (k : Ev g d mi (tgt) ls (st) M mc ms Post) : Ev g d mi pc ls (st) M mc ms Post := by
  intro p e R s m args below meth c H locs cells slots lsA TC TS hC hM hS hl h1 h2 h3 h4
  obtain ⟨hx, hb, hml, hown, hr, hlk, hxt, hts, hK, hf, hlo, hnm⟩ := id hC
  exact lv_goto hx hb hd ht (k p e R s m args below meth c H locs cells slots lsA TC TS hC hM hS hl h1 h2 h3 h4)
theorem ev_if_eq {g : GL} {d : Nat} {mi : MI} {pc : Nat} {ls : List (Option RV)} {st : List RV} {M : RM} {mc ms : Nat} {Post : RO → RM → Prop} {x : Int32} {off : Int} {tgt : Nat} (ht : (pc : Int) + off = (tgt : Int)) (hd : decode mi.2.1 pc = .ok (.ifCond .eq off, 3)) (kt : x = 0 → Ev g d mi tgt ls st M mc ms Post) (kf : ¬ x = 0 → Ev g d mi (pc + 3) ls st M mc ms Post) : Ev g d mi pc ls (.inl (.int x) :: st) M mc ms Post := by
  intro p e R s m args below meth c H locs cells slots lsA TC TS hC hM hS hl h1 h2 h3 h4
  obtain ⟨hx, hb, hml, hown, hr, hlk, hxt, hts, hK, hf, hlo, hnm⟩ := id hC
  exact lv_if_eq hx hb hd ht (fun q => kt q p e R s m args below meth c H locs cells slots lsA TC TS hC hM hS hl h1 h2 h3 h4) (fun q => kf q p e R s m args below meth c H locs cells slots lsA TC TS hC hM hS hl h1 h2 h3 h4)
theorem ev_icmp_eq {g : GL} {d : Nat} {mi : MI} {pc : Nat} {ls : List (Option RV)} {st : List RV} {M : RM} {mc ms : Nat} {Post : RO → RM → Prop} {x y : Int32} {off : Int} {tgt : Nat} (ht : (pc : Int) + off = (tgt : Int)) (hd : decode mi.2.1 pc = .ok (.if_icmp .eq off, 3)) (kt : x = y → Ev g d mi tgt ls st M mc ms Post) (kf : ¬ x = y → Ev g d mi (pc + 3) ls st M mc ms Post) : Ev g d mi pc ls (.inl (.int y) :: .inl (.int x) :: st) M mc ms Post := by
  intro p e R s m args below meth c H locs cells slots lsA TC TS hC hM hS hl h1 h2 h3 h4
  obtain ⟨hx, hb, hml, hown, hr, hlk, hxt, hts, hK, hf, hlo, hnm⟩ := id hC
  exact lv_icmp_eq hx hb hd ht (fun q => kt q p e R s m args below meth c H locs cells slots lsA TC TS hC hM hS hl h1 h2 h3 h4) (fun q => kf q p e R s m args below meth c H locs cells slots lsA TC TS hC hM hS hl h1 h2 h3 h4)
theorem ev_if_ne {g : GL} {d : Nat} {mi : MI} {pc : Nat} {ls : List (Option RV)} {st : List RV} {M : RM} {mc ms : Nat} {Post : RO → RM → Prop} {x : Int32} {off : Int} {tgt : Nat} (ht : (pc : Int) + off = (tgt : Int)) (hd : decode mi.2.1 pc = .ok (.ifCond .ne off, 3)) (kt : ¬ x = 0 → Ev g d mi tgt ls st M mc ms Post) (kf : x = 0 → Ev g d mi (pc + 3) ls st M mc ms Post) : Ev g d mi pc ls (.inl (.int x) :: st) M mc ms Post := by
  intro p e R s m args below meth c H locs cells slots lsA TC TS hC hM hS hl h1 h2 h3 h4
  obtain ⟨hx, hb, hml, hown, hr, hlk, hxt, hts, hK, hf, hlo, hnm⟩ := id hC
  exact lv_if_ne hx hb hd ht (fun q => kt q p e R s m args below meth c H locs cells slots lsA TC TS hC hM hS hl h1 h2 h3 h4) (fun q => kf q p e R s m args below meth c H locs cells slots lsA TC TS hC hM hS hl h1 h2 h3 h4)
theorem ev_icmp_ne {g : GL} {d : Nat} {mi : MI} {pc : Nat} {ls : List (Option RV)} {st : List RV} {M : RM} {mc ms : Nat} {Post : RO → RM → Prop} {x y : Int32} {off : Int} {tgt : Nat} (ht : (pc : Int) + off = (tgt : Int)) (hd : decode mi.2.1 pc = .ok (.if_icmp .ne off, 3)) (kt : ¬ x = y → Ev g d mi tgt ls st M mc ms Post) (kf : x = y → Ev g d mi (pc + 3) ls st M mc ms Post) : Ev g d mi pc ls (.inl (.int y) :: .inl (.int x) :: st) M mc ms Post := by
  intro p e R s m args below meth c H locs cells slots lsA TC TS hC hM hS hl h1 h2 h3 h4
  obtain ⟨hx, hb, hml, hown, hr, hlk, hxt, hts, hK, hf, hlo, hnm⟩ := id hC
  exact lv_icmp_ne hx hb hd ht (fun q => kt q p e R s m args below meth c H locs cells slots lsA TC TS hC hM hS hl h1 h2 h3 h4) (fun q => kf q p e R s m args below meth c H locs cells slots lsA TC TS hC hM hS hl h1 h2 h3 h4)
theorem ev_if_lt {g : GL} {d : Nat} {mi : MI} {pc : Nat} {ls : List (Option RV)} {st : List RV} {M : RM} {mc ms : Nat} {Post : RO → RM → Prop} {x : Int32} {off : Int} {tgt : Nat} (ht : (pc : Int) + off = (tgt : Int)) (hd : decode mi.2.1 pc = .ok (.ifCond .lt off, 3)) (kt : x < 0 → Ev g d mi tgt ls st M mc ms Post) (kf : ¬ x < 0 → Ev g d mi (pc + 3) ls st M mc ms Post) : Ev g d mi pc ls (.inl (.int x) :: st) M mc ms Post := by
  intro p e R s m args below meth c H locs cells slots lsA TC TS hC hM hS hl h1 h2 h3 h4
  obtain ⟨hx, hb, hml, hown, hr, hlk, hxt, hts, hK, hf, hlo, hnm⟩ := id hC
  exact lv_if_lt hx hb hd ht (fun q => kt q p e R s m args below meth c H locs cells slots lsA TC TS hC hM hS hl h1 h2 h3 h4) (fun q => kf q p e R s m args below meth c H locs cells slots lsA TC TS hC hM hS hl h1 h2 h3 h4)
theorem ev_icmp_lt {g : GL} {d : Nat} {mi : MI} {pc : Nat} {ls : List (Option RV)} {st : List RV} {M : RM} {mc ms : Nat} {Post : RO → RM → Prop} {x y : Int32} {off : Int} {tgt : Nat} (ht : (pc : Int) + off = (tgt : Int)) (hd : decode mi.2.1 pc = .ok (.if_icmp .lt off, 3)) (kt : x < y → Ev g d mi tgt ls st M mc ms Post) (kf : ¬ x < y → Ev g d mi (pc + 3) ls st M mc ms Post) : Ev g d mi pc ls (.inl (.int y) :: .inl (.int x) :: st) M mc ms Post := by
  intro p e R s m args below meth c H locs cells slots lsA TC TS hC hM hS hl h1 h2 h3 h4
  obtain ⟨hx, hb, hml, hown, hr, hlk, hxt, hts, hK, hf, hlo, hnm⟩ := id hC
  exact lv_icmp_lt hx hb hd ht (fun q => kt q p e R s m args below meth c H locs cells slots lsA TC TS hC hM hS hl h1 h2 h3 h4) (fun q => kf q p e R s m args below meth c H locs cells slots lsA TC TS hC hM hS hl h1 h2 h3 h4)
theorem ev_if_ge {g : GL} {d : Nat} {mi : MI} {pc : Nat} {ls : List (Option RV)} {st : List RV} {M : RM} {mc ms : Nat} {Post : RO → RM → Prop} {x : Int32} {off : Int} {tgt : Nat} (ht : (pc : Int) + off = (tgt : Int)) (hd : decode mi.2.1 pc = .ok (.ifCond .ge off, 3)) (kt : 0 ≤ x → Ev g d mi tgt ls st M mc ms Post) (kf : ¬ 0 ≤ x → Ev g d mi (pc + 3) ls st M mc ms Post) : Ev g d mi pc ls (.inl (.int x) :: st) M mc ms Post := by
  intro p e R s m args below meth c H locs cells slots lsA TC TS hC hM hS hl h1 h2 h3 h4
  obtain ⟨hx, hb, hml, hown, hr, hlk, hxt, hts, hK, hf, hlo, hnm⟩ := id hC
  exact lv_if_ge hx hb hd ht (fun q => kt q p e R s m args below meth c H locs cells slots lsA TC TS hC hM hS hl h1 h2 h3 h4) (fun q => kf q p e R s m args below meth c H locs cells slots lsA TC TS hC hM hS hl h1 h2 h3 h4)
theorem ev_icmp_ge {g : GL} {d : Nat} {mi : MI} {pc : Nat} {ls : List (Option RV)} {st : List RV} {M : RM} {mc ms : Nat} {Post : RO → RM → Prop} {x y : Int32} {off : Int} {tgt : Nat} (ht : (pc : Int) + off = (tgt : Int)) (hd : decode mi.2.1 pc = .ok (.if_icmp .ge off, 3)) (kt : y ≤ x → Ev g d mi tgt ls st M mc ms Post) (kf : ¬ y ≤ x → Ev g d mi (pc + 3) ls st M mc ms Post) : Ev g d mi pc ls (.inl (.int y) :: .inl (.int x) :: st) M mc ms Post := by
  intro p e R s m args below meth c H locs cells slots lsA TC TS hC hM hS hl h1 h2 h3 h4
  obtain ⟨hx, hb, hml, hown, hr, hlk, hxt, hts, hK, hf, hlo, hnm⟩ := id hC
  exact lv_icmp_ge hx hb hd ht (fun q => kt q p e R s m args below meth c H locs cells slots lsA TC TS hC hM hS hl h1 h2 h3 h4) (fun q => kf q p e R s m args below meth c H locs cells slots lsA TC TS hC hM hS hl h1 h2 h3 h4)
theorem ev_if_gt {g : GL} {d : Nat} {mi : MI} {pc : Nat} {ls : List (Option RV)} {st : List RV} {M : RM} {mc ms : Nat} {Post : RO → RM → Prop} {x : Int32} {off : Int} {tgt : Nat} (ht : (pc : Int) + off = (tgt : Int)) (hd : decode mi.2.1 pc = .ok (.ifCond .gt off, 3)) (kt : 0 < x → Ev g d mi tgt ls st M mc ms Post) (kf : ¬ 0 < x → Ev g d mi (pc + 3) ls st M mc ms Post) : Ev g d mi pc ls (.inl (.int x) :: st) M mc ms Post := by
  intro p e R s m args below meth c H locs cells slots lsA TC TS hC hM hS hl h1 h2 h3 h4
  obtain ⟨hx, hb, hml, hown, hr, hlk, hxt, hts, hK, hf, hlo, hnm⟩ := id hC
  exact lv_if_gt hx hb hd ht (fun q => kt q p e R s m args below meth c H locs cells slots lsA TC TS hC hM hS hl h1 h2 h3 h4) (fun q => kf q p e R s m args below meth c H locs cells slots lsA TC TS hC hM hS hl h1 h2 h3 h4)
theorem ev_icmp_gt {g : GL} {d : Nat} {mi : MI} {pc : Nat} {ls : List (Option RV)} {st : List RV} {M : RM} {mc ms : Nat} {Post : RO → RM → Prop} {x y : Int32} {off : Int} {tgt : Nat} (ht : (pc : Int) + off = (tgt : Int)) (hd : decode mi.2.1 pc = .ok (.if_icmp .gt off, 3)) (kt : y < x → Ev g d mi tgt ls st M mc ms Post) (kf : ¬ y < x → Ev g d mi (pc + 3) ls st M mc ms Post) : Ev g d mi pc ls (.inl (.int y) :: .inl (.int x) :: st) M mc ms Post := by
  intro p e R s m args below meth c H locs cells slots lsA TC TS hC hM hS hl h1 h2 h3 h4
  obtain ⟨hx, hb, hml, hown, hr, hlk, hxt, hts, hK, hf, hlo, hnm⟩ := id hC
  exact lv_icmp_gt hx hb hd ht (fun q => kt q p e R s m args below meth c H locs cells slots lsA TC TS hC hM hS hl h1 h2 h3 h4) (fun q => kf q p e R s m args below meth c H locs cells slots lsA TC TS hC hM hS hl h1 h2 h3 h4)
theorem ev_if_le {g : GL} {d : Nat} {mi : MI} {pc : Nat} {ls : List (Option RV)} {st : List RV} {M : RM} {mc ms : Nat} {Post : RO → RM → Prop} {x : Int32} {off : Int} {tgt : Nat} (ht : (pc : Int) + off = (tgt : Int)) (hd : decode mi.2.1 pc = .ok (.ifCond .le off, 3)) (kt : x ≤ 0 → Ev g d mi tgt ls st M mc ms Post) (kf : ¬ x ≤ 0 → Ev g d mi (pc + 3) ls st M mc ms Post) : Ev g d mi pc ls (.inl (.int x) :: st) M mc ms Post := by
  intro p e R s m args below meth c H locs cells slots lsA TC TS hC hM hS hl h1 h2 h3 h4
  obtain ⟨hx, hb, hml, hown, hr, hlk, hxt, hts, hK, hf, hlo, hnm⟩ := id hC
  exact lv_if_le hx hb hd ht (fun q => kt q p e R s m args below meth c H locs cells slots lsA TC TS hC hM hS hl h1 h2 h3 h4) (fun q => kf q p e R s m args below meth c H locs cells slots lsA TC TS hC hM hS hl h1 h2 h3 h4)
theorem ev_icmp_le {g : GL} {d : Nat} {mi : MI} {pc : Nat} {ls : List (Option RV)} {st : List RV} {M : RM} {mc ms : Nat} {Post : RO → RM → Prop} {x y : Int32} {off : Int} {tgt : Nat} (ht : (pc : Int) + off = (tgt : Int)) (hd : decode mi.2.1 pc = .ok (.if_icmp .le off, 3)) (kt : x ≤ y → Ev g d mi tgt ls st M mc ms Post) (kf : ¬ x ≤ y → Ev g d mi (pc + 3) ls st M mc ms Post) : Ev g d mi pc ls (.inl (.int y) :: .inl (.int x) :: st) M mc ms Post := by
  intro p e R s m args below meth c H locs cells slots lsA TC TS hC hM hS hl h1 h2 h3 h4
  obtain ⟨hx, hb, hml, hown, hr, hlk, hxt, hts, hK, hf, hlo, hnm⟩ := id hC
  exact lv_icmp_le hx hb hd ht (fun q => kt q p e R s m args below meth c H locs cells slots lsA TC TS hC hM hS hl h1 h2 h3 h4) (fun q => kf q p e R s m args below meth c H locs cells slots lsA TC TS hC hM hS hl h1 h2 h3 h4)
theorem ev_lcmp {g : GL} {d : Nat} {mi : MI} {pc : Nat} {ls : List (Option RV)} {st : List RV} {M : RM} {mc ms : Nat} {Post : RO → RM → Prop} {x y : Int64} (hd : decode mi.2.1 pc = .ok (.lcmp, 1)) (k : Ev g d mi (pc + 1) ls (.inl (.int (lg_cmp x y)) :: st) M mc ms Post) : Ev g d mi pc ls (.inl (.long y) :: .inl (.long x) :: st) M mc ms Post := by
  intro p e R s m args below meth c H locs cells slots lsA TC TS hC hM hS hl h1 h2 h3 h4
  obtain ⟨hx, hb, hml, hown, hr, hlk, hxt, hts, hK, hf, hlo, hnm⟩ := id hC
  exact W.lcmp hx hb hd (k p e R s m args below meth c H locs cells slots lsA TC TS hC hM hS hl h1 h2 h3 h4)

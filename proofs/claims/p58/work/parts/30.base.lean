/-! Pure reasoning: loops, memory, numbers. -/
theorem chk_t {α : Type} {e : Option α} : chk true e = e := rfl
theorem chk_of {α : Type} {b : Bool} {e : Option α} (h : b = true) : chk b e = e := by subst h; rfl
theorem bind_s {α β : Type} {a : α} {f : α → Option β} : (some a).bind f = f a := rfl
theorem nm_9 {α β : Type} (x : α) (f : α → β) : nm x f = f x := rfl
theorem inb_of {i n : Nat} (h : i < n) (hn : n < 2 ^ 31) : inb (nI i) n = true := decide_eq_true (vp_in_nI h hn)
theorem ne_m1 {n : Nat} (h : n < 2 ^ 31) : ¬ nI n = -1 := by
  intro z
  have h1 := congrArg Int32.toInt z
  rw [nI_toInt h] at h1
  have h2 : (-1 : Int32).toInt = -1 := by decide
  omega
theorem m1_ne {n : Nat} (h : n < 2 ^ 31) : ¬ (-1 : Int32) = nI n := fun z => ne_m1 h z.symm
theorem st3_K {μ : Mem} {K j f K' : Nat} {x : Int32} (h : K' ≠ K) : st3 μ K j f x K' = μ K' := by
  funext j' f'
  unfold st3
  rw [if_neg (fun z => h z.1)]
theorem st3_J {μ : Mem} {K j f j' : Nat} {x : Int32} (h : j' ≠ j) : st3 μ K j f x K j' = μ K j' := by
  funext f'
  unfold st3
  rw [if_neg (fun z => h z.2.1)]
def ua (a : Nat → Int32) (k : Nat) (x : Int32) : Nat → Int32 := fun i => if i = k then x else a i
theorem st3_ua {μ : Mem} {K j f : Nat} {x : Int32} : st3 μ K j f x K j = ua (μ K j) f x := by
  funext f'
  unfold st3 ua
  by_cases h : f' = f <;> simp [h]
theorem ua_S {a : Nat → Int32} {k : Nat} {x : Int32} : ua a k x k = x := if_pos rfl
theorem ua_N {a : Nat → Int32} {k i : Nat} {x : Int32} (h : i ≠ k) : ua a k x i = a i := if_neg h
theorem LIM_lt {n : Nat} (h : n < 3000000) : n < LIM := h
-- loops
theorem it_mono {S R : Type} {f : S → Option (S ⊕ R)} : ∀ {n m : Nat} {s : S} {r : R}, n ≤ m → it f n s = some r → it f m s = some r
  | 0, _, _, _, _, h => by cases h
  | n + 1, 0, _, _, hm, _ => by omega
  | n + 1, m + 1, s, r, hm, h => by
    unfold it at h ⊢
    cases hf : f s with
    | none => rw [hf] at h; cases h
    | some o =>
      rw [hf] at h
      cases o with
      | inl s' => exact it_mono (Nat.le_of_succ_le_succ hm) h
      | inr r' => exact h
theorem it_l {S R : Type} {f : S → Option (S ⊕ R)} {n : Nat} {s s' : S} {r : R} (h : f s = some (.inl s')) (k : it f n s' = some r) : it f (n + 1) s = some r := by
  unfold it; rw [h]; exact k
theorem it_r {S R : Type} {f : S → Option (S ⊕ R)} {n : Nat} {s : S} {r : R} (h : f s = some (.inr r)) : it f (n + 1) s = some r := by
  unfold it; rw [h]
/-- counted: i from k to N -/
theorem it_forK {S R : Type} {f : S → Option (S ⊕ R)} (I : Nat → S → Prop) (Q : R → Prop) (N : Nat) (hs : ∀ i, i < N → ∀ s, I i s → ∃ s', f s = some (.inl s') ∧ I (i + 1) s') (hx : ∀ s, I N s → ∃ r, f s = some (.inr r) ∧ Q r) : ∀ (n k : Nat) (s : S), k + n = N → I k s → ∃ r, it f (n + 1) s = some r ∧ Q r := by
  intro n
  induction n with
  | zero =>
    intro k s hk h
    obtain rfl : k = N := by omega
    obtain ⟨r, h1, h2⟩ := hx s h
    exact ⟨r, it_r h1, h2⟩
  | succ n ih =>
    intro k s hk h
    obtain ⟨s', h1, h2⟩ := hs k (by omega) s h
    obtain ⟨r, h3, h4⟩ := ih (k + 1) s' (by omega) h2
    exact ⟨r, it_l h1 h3, h4⟩
theorem it_for {S R : Type} {f : S → Option (S ⊕ R)} (I : Nat → S → Prop) (Q : R → Prop) (N : Nat) {s : S} (k : Nat) (hk : k ≤ N) (hN : N < 2999999) (h0 : I k s) (hs : ∀ i, i < N → ∀ s, I i s → ∃ s', f s = some (.inl s') ∧ I (i + 1) s') (hx : ∀ s, I N s → ∃ r, f s = some (.inr r) ∧ Q r) : ∃ r, it f LIM s = some r ∧ Q r := by
  obtain ⟨r, h1, h2⟩ := it_forK I Q N hs hx (N - k) k s (by omega) h0
  exact ⟨r, it_mono (show N - k + 1 ≤ 3000000 by omega) h1, h2⟩
/-- two loops side by side; a number falls -/
theorem it_two {S1 R1 S2 R2 : Type} {f1 : S1 → Option (S1 ⊕ R1)} {f2 : S2 → Option (S2 ⊕ R2)} (I : S1 → S2 → Prop) (m : S1 → Nat) (Q : R1 → R2 → Prop)
    (hs : ∀ a b, I a b → (∃ a' b', f1 a = some (.inl a') ∧ f2 b = some (.inl b') ∧ I a' b' ∧ m a' < m a) ∨ ∃ r1 r2, f1 a = some (.inr r1) ∧ f2 b = some (.inr r2) ∧ Q r1 r2) :
    ∀ (n : Nat) (a : S1) (b : S2), I a b → m a < n → ∃ r1 r2, it f1 n a = some r1 ∧ it f2 n b = some r2 ∧ Q r1 r2 := by
  intro n
  induction n with
  | zero => intro a b _ h; omega
  | succ n ih =>
    intro a b h hm
    rcases hs a b h with ⟨a', b', h1, h2, h3, h4⟩ | ⟨r1, r2, h1, h2, h3⟩
    · obtain ⟨r1, r2, e1, e2, e3⟩ := ih a' b' h3 (by omega)
      exact ⟨r1, r2, it_l h1 e1, it_l h2 e2, e3⟩
    · exact ⟨r1, r2, it_r h1, it_r h2, h3⟩
theorem it_for2K {S1 R1 S2 R2 : Type} {f1 : S1 → Option (S1 ⊕ R1)} {f2 : S2 → Option (S2 ⊕ R2)} (I : Nat → S1 → S2 → Prop) (Q : R1 → R2 → Prop) (N : Nat)
    (hs : ∀ i, i < N → ∀ a b, I i a b → (∃ a' b', f1 a = some (.inl a') ∧ f2 b = some (.inl b') ∧ I (i + 1) a' b') ∨ ∃ r1 r2, f1 a = some (.inr r1) ∧ f2 b = some (.inr r2) ∧ Q r1 r2)
    (hx : ∀ a b, I N a b → ∃ r1 r2, f1 a = some (.inr r1) ∧ f2 b = some (.inr r2) ∧ Q r1 r2) : ∀ (n k : Nat) (a : S1) (b : S2), k + n = N → I k a b → ∃ r1 r2, it f1 (n + 1) a = some r1 ∧ it f2 (n + 1) b = some r2 ∧ Q r1 r2 := by
  intro n
  induction n with
  | zero =>
    intro k a b hk h
    obtain rfl : k = N := by omega
    obtain ⟨r1, r2, h1, h2, h3⟩ := hx a b h
    exact ⟨r1, r2, it_r h1, it_r h2, h3⟩
  | succ n ih =>
    intro k a b hk h
    rcases hs k (by omega) a b h with ⟨a', b', h1, h2, h3⟩ | ⟨r1, r2, h1, h2, h3⟩
    · obtain ⟨r1, r2, e1, e2, e3⟩ := ih (k + 1) a' b' (by omega) h3
      exact ⟨r1, r2, it_l h1 e1, it_l h2 e2, e3⟩
    · exact ⟨r1, r2, it_r h1, it_r h2, h3⟩
theorem it_for2 {S1 R1 S2 R2 : Type} {f1 : S1 → Option (S1 ⊕ R1)} {f2 : S2 → Option (S2 ⊕ R2)} (I : Nat → S1 → S2 → Prop) (Q : R1 → R2 → Prop) (N : Nat) {a : S1} {b : S2} (k : Nat) (hk : k ≤ N) (hN : N < 2999999) (h0 : I k a b)
    (hs : ∀ i, i < N → ∀ a b, I i a b → (∃ a' b', f1 a = some (.inl a') ∧ f2 b = some (.inl b') ∧ I (i + 1) a' b') ∨ ∃ r1 r2, f1 a = some (.inr r1) ∧ f2 b = some (.inr r2) ∧ Q r1 r2)
    (hx : ∀ a b, I N a b → ∃ r1 r2, f1 a = some (.inr r1) ∧ f2 b = some (.inr r2) ∧ Q r1 r2) : ∃ r1 r2, it f1 LIM a = some r1 ∧ it f2 LIM b = some r2 ∧ Q r1 r2 := by
  obtain ⟨r1, r2, h1, h2, h3⟩ := it_for2K I Q N hs hx (N - k) k a b (by omega) h0
  exact ⟨r1, r2, it_mono (show N - k + 1 ≤ 3000000 by omega) h1, it_mono (show N - k + 1 ≤ 3000000 by omega) h2, h3⟩
theorem it_fr2 {S1 R1 S2 R2 : Type} {G : Prop} {f1 : S1 → Option (S1 ⊕ R1)} {f2 : S2 → Option (S2 ⊕ R2)} (I : Nat → S1 → S2 → Prop) (Q : R1 → R2 → Prop) (N : Nat) {a : S1} {b : S2} (k : Nat) (hk : k ≤ N) (hN : N < 2999999) (h0 : I k a b)
    (hs : ∀ i, i < N → ∀ a b, I i a b → (∃ a' b', f1 a = some (.inl a') ∧ f2 b = some (.inl b') ∧ I (i + 1) a' b') ∨ ∃ r1 r2, f1 a = some (.inr r1) ∧ f2 b = some (.inr r2) ∧ Q r1 r2)
    (hx : ∀ a b, I N a b → ∃ r1 r2, f1 a = some (.inr r1) ∧ f2 b = some (.inr r2) ∧ Q r1 r2) (hg : ∀ r1 r2, it f1 LIM a = some r1 → it f2 LIM b = some r2 → Q r1 r2 → G) : G := by
  obtain ⟨r1, r2, h1, h2, h3⟩ := it_for2 I Q N k hk hN h0 hs hx
  exact hg r1 r2 h1 h2 h3
theorem it_fr {S R : Type} {G : Prop} {f : S → Option (S ⊕ R)} (I : Nat → S → Prop) (Q : R → Prop) (N : Nat) {s : S} (k : Nat) (hk : k ≤ N) (hN : N < 2999999) (h0 : I k s) (hs : ∀ i, i < N → ∀ s, I i s → ∃ s', f s = some (.inl s') ∧ I (i + 1) s') (hx : ∀ s, I N s → ∃ r, f s = some (.inr r) ∧ Q r) (hg : ∀ r, it f LIM s = some r → Q r → G) : G := by
  obtain ⟨r, h1, h2⟩ := it_for I Q N k hk hN h0 hs hx
  exact hg r h1 h2
theorem it_add {S R : Type} {f : S → Option (S ⊕ R)} : ∀ {n m : Nat} {s s' : S} {r : R}, (∃ st : Nat → S, st 0 = s ∧ st n = s' ∧ ∀ i, i < n → f (st i) = some (.inl (st (i + 1)))) → it f m s' = some r → it f (n + m) s = some r
  | 0, m, s, s', r, ⟨st, h0, h1, _⟩, h => by
    rw [Nat.zero_add, ← h0, h1]; exact h
  | n + 1, m, s, s', r, ⟨st, h0, h1, h2⟩, h => by
    have h3 := h2 0 (by omega)
    rw [h0] at h3
    rw [show n + 1 + m = (n + m) + 1 by omega]
    exact it_l h3 (it_add (n := n) ⟨fun i => st (i + 1), rfl, h1, fun i hi => h2 (i + 1) (by omega)⟩ h)
theorem it_fr2cK {S1 R1 S2 R2 : Type} {f1 : S1 → Option (S1 ⊕ R1)} {f2 : S2 → Option (S2 ⊕ R2)} (I : Nat → S1 → S2 → Prop) (Q : R1 → R2 → Prop) (N c : Nat)
    (hs : ∀ i, i < N → ∀ a b, I i a b → ∃ a' b', f1 a = some (.inl a') ∧ f2 b = some (.inl b') ∧ I (i + 1) a' b')
    (hx : ∀ a b, I N a b → ∃ r1 r2, it f1 c a = some r1 ∧ it f2 c b = some r2 ∧ Q r1 r2) : ∀ (n k : Nat) (a : S1) (b : S2), k + n = N → I k a b → ∃ r1 r2, it f1 (n + c) a = some r1 ∧ it f2 (n + c) b = some r2 ∧ Q r1 r2 := by
  intro n
  induction n with
  | zero =>
    intro k a b hk h
    obtain rfl : k = N := by omega
    rw [Nat.zero_add]
    exact hx a b h
  | succ n ih =>
    intro k a b hk h
    obtain ⟨a', b', h1, h2, h3⟩ := hs k (by omega) a b h
    obtain ⟨r1, r2, e1, e2, e3⟩ := ih (k + 1) a' b' (by omega) h3
    rw [show n + 1 + c = (n + c) + 1 by omega]
    exact ⟨r1, r2, it_l h1 e1, it_l h2 e2, e3⟩
theorem it_fr2c {S1 R1 S2 R2 : Type} {G : Prop} {f1 : S1 → Option (S1 ⊕ R1)} {f2 : S2 → Option (S2 ⊕ R2)} (I : Nat → S1 → S2 → Prop) (Q : R1 → R2 → Prop) (N c : Nat) {a : S1} {b : S2} (hN : N + c < 2999999) (h0 : I 0 a b)
    (hs : ∀ i, i < N → ∀ a b, I i a b → ∃ a' b', f1 a = some (.inl a') ∧ f2 b = some (.inl b') ∧ I (i + 1) a' b')
    (hx : ∀ a b, I N a b → ∃ r1 r2, it f1 c a = some r1 ∧ it f2 c b = some r2 ∧ Q r1 r2) (hg : ∀ r1 r2, it f1 LIM a = some r1 → it f2 LIM b = some r2 → Q r1 r2 → G) : G := by
  obtain ⟨r1, r2, h1, h2, h3⟩ := it_fr2cK I Q N c hs hx N 0 a b (by omega) h0
  exact hg r1 r2 (it_mono (show N + c ≤ 3000000 by omega) h1) (it_mono (show N + c ≤ 3000000 by omega) h2) h3
-- sums
def sm (g : Nat → Int32) : Nat → Int32
  | 0 => 0
  | n + 1 => sm g n + g n
theorem sm_congr {g g' : Nat → Int32} : ∀ {n : Nat}, (∀ i, i < n → g i = g' i) → sm g n = sm g' n
  | 0, _ => rfl
  | n + 1, h => by
    unfold sm
    rw [sm_congr (n := n) (fun i hi => h i (by omega)), h n (by omega)]
theorem it_sum {f : Int32 × Int32 → Option ((Int32 × Int32) ⊕ Int32)} {x0 : Int32} (g : Nat → Int32) (N : Nat) (hN : N < 2999999) (h : ∀ i, i < N → ∀ x, f (x, nI i) = some (.inl (x + g i, nI (i + 1)))) (hx : ∀ x, f (x, nI N) = some (.inr x)) : it f LIM (x0, 0) = some (x0 + sm g N) := by
  obtain ⟨r, h1, rfl⟩ := it_for (f := f) (s := (x0, 0)) (fun i s => s = (x0 + sm g i, nI i)) (fun r => r = x0 + sm g N) N 0 (by omega) hN (by show (x0, (0 : Int32)) = (x0 + 0, nI 0); rw [Int32.add_zero]; rfl)
    (fun i hi s hs => by subst hs; exact ⟨_, h i hi _, by show (_, _) = (x0 + (sm g i + g i), _); rw [Int32.add_assoc]⟩) (fun s hs => by subst hs; exact ⟨_, hx _, rfl⟩)
  exact h1
/-- a count: how many -/
def ct (P : Nat → Bool) : Nat → Nat
  | 0 => 0
  | n + 1 => ct P n + (if P n = true then 1 else 0)
theorem ct_le {P : Nat → Bool} : ∀ {n : Nat}, ct P n ≤ n
  | 0 => Nat.le_refl _
  | n + 1 => by
    have := ct_le (P := P) (n := n)
    unfold ct
    split <;> omega
theorem ct_congr {P P' : Nat → Bool} : ∀ {n : Nat}, (∀ i, i < n → P i = P' i) → ct P n = ct P' n
  | 0, _ => rfl
  | n + 1, h => by
    unfold ct
    rw [ct_congr (n := n) (fun i hi => h i (by omega)), h n (by omega)]
theorem ct_zero {P : Nat → Bool} : ∀ {n : Nat}, ct P n = 0 ↔ ∀ i, i < n → P i = false
  | 0 => ⟨fun _ i hi => by omega, fun _ => rfl⟩
  | n + 1 => by
    have ih := ct_zero (P := P) (n := n)
    unfold ct
    constructor
    · intro h i hi
      by_cases e : i = n
      · subst e
        cases hp : P i with
        | false => rfl
        | true => rw [hp] at h; simp at h
      · exact ih.mp (by omega) i (by omega)
    · intro h
      rw [ih.mpr (fun i hi => h i (by omega)), h n (by omega)]
      rfl
theorem it_ct {f : Int32 × Int32 → Option ((Int32 × Int32) ⊕ Int32)} (P : Nat → Bool) (N : Nat) (hN : N < 2999999) (h : ∀ i, i < N → ∀ x, f (x, nI i) = some (.inl (if P i = true then x + 1 else x, nI (i + 1)))) (hx : ∀ x, f (x, nI N) = some (.inr x)) : it f LIM (0, 0) = some (nI (ct P N)) := by
  obtain ⟨r, h1, rfl⟩ := it_for (f := f) (s := (0, 0)) (fun i s => s = (nI (ct P i), nI i)) (fun r => r = nI (ct P N)) N 0 (by omega) hN rfl
    (fun i hi s hs => by
      subst hs
      refine ⟨_, h i hi _, ?_⟩
      show (_, _) = (nI (ct P i + _), _)
      split
      · rw [nI_1]
      · rfl) (fun s hs => by subst hs; exact ⟨_, hx _, rfl⟩)
  exact h1
-- the first
def fdI (P : Nat → Bool) : Nat → Nat → Int32
  | _, 0 => -1
  | i, n + 1 => if P i = true then nI i else fdI P (i + 1) n
theorem fdI_congr {P P' : Nat → Bool} : ∀ {n i : Nat}, (∀ k, i ≤ k → k < i + n → P k = P' k) → fdI P i n = fdI P' i n
  | 0, _, _ => rfl
  | n + 1, i, h => by
    unfold fdI
    rw [h i (Nat.le_refl _) (by omega), fdI_congr (n := n) (i := i + 1) (fun k h1 h2 => h k (by omega) (by omega))]
theorem fdI_sp {P : Nat → Bool} : ∀ {n i : Nat}, (fdI P i n = -1 ∧ ∀ k, i ≤ k → k < i + n → P k = false) ∨ ∃ k, i ≤ k ∧ k < i + n ∧ P k = true ∧ fdI P i n = nI k ∧ ∀ z, i ≤ z → z < k → P z = false
  | 0, i => Or.inl ⟨rfl, fun k h1 h2 => by omega⟩
  | n + 1, i => by
    cases hp : P i with
    | true => exact Or.inr ⟨i, Nat.le_refl _, by omega, hp, by unfold fdI; rw [if_pos hp], fun z h1 h2 => by omega⟩
    | false =>
      have e : fdI P i (n + 1) = fdI P (i + 1) n := by show (if P i = true then nI i else fdI P (i + 1) n) = _; rw [hp]; rfl
      rcases fdI_sp (P := P) (n := n) (i := i + 1) with ⟨h1, h2⟩ | ⟨k, h1, h2, h3, h4, h5⟩
      · refine Or.inl ⟨e.trans h1, fun k h3 h4 => ?_⟩
        by_cases ek : k = i
        · rw [ek]; exact hp
        · exact h2 k (by omega) (by omega)
      · refine Or.inr ⟨k, by omega, by omega, h3, e.trans h4, fun z h6 h7 => ?_⟩
        by_cases ez : z = i
        · rw [ez]; exact hp
        · exact h5 z (by omega) h7
theorem it_fdK {f : Int32 → Option (Int32 ⊕ (Unit ⊕ Int32))} (P : Nat → Bool) (N : Nat) (h : ∀ i, i < N → f (nI i) = some (if P i = true then .inr (.inr (nI i)) else .inl (nI (i + 1)))) (hx : f (nI N) = some (.inr (.inl ()))) : ∀ (n k : Nat), k + n = N → ∃ q, it f (n + 1) (nI k) = some q ∧ ((q = .inl () ∧ fdI P k n = -1) ∨ q = .inr (fdI P k n)) := by
  intro n
  induction n with
  | zero =>
    intro k hk
    obtain rfl : k = N := by omega
    exact ⟨_, it_r hx, Or.inl ⟨rfl, rfl⟩⟩
  | succ n ih =>
    intro k hk
    have h1 := h k (by omega)
    cases hp : P k with
    | true =>
      rw [hp] at h1
      exact ⟨_, it_r h1, Or.inr (by unfold fdI; rw [if_pos hp])⟩
    | false =>
      rw [hp] at h1
      obtain ⟨q, h2, h3⟩ := ih (k + 1) (by omega)
      have e : fdI P k (n + 1) = fdI P (k + 1) n := by show (if P k = true then nI k else fdI P (k + 1) n) = _; rw [hp]; rfl
      rw [e]
      exact ⟨q, it_l h1 h2, h3⟩
theorem it_fd {f : Int32 → Option (Int32 ⊕ (Unit ⊕ Int32))} (P : Nat → Bool) (N : Nat) (hN : N < 2999999) (h : ∀ i, i < N → f (nI i) = some (if P i = true then .inr (.inr (nI i)) else .inl (nI (i + 1)))) (hx : f (nI N) = some (.inr (.inl ()))) : (it f LIM 0).bind (fun q => els q (fun _ => some (-1)) (fun v => some v)) = some (fdI P 0 N) := by
  obtain ⟨q, h1, h2⟩ := it_fdK P N h hx N 0 (by omega)
  rw [show it f LIM 0 = some q from it_mono (show N + 1 ≤ 3000000 by omega) h1]
  rcases h2 with ⟨rfl, h3⟩ | rfl
  · rw [h3]; rfl
  · rfl
/-- whether there is one -/
theorem it_anyK {f : Int32 → Option (Int32 ⊕ (Unit ⊕ Int32))} (P : Nat → Bool) (N : Nat) (h : ∀ i, i < N → f (nI i) = some (if P i = true then .inr (.inr 1) else .inl (nI (i + 1)))) (hx : f (nI N) = some (.inr (.inl ()))) : ∀ (n k : Nat), k + n = N → ∃ q, it f (n + 1) (nI k) = some q ∧ ((q = .inl () ∧ ∀ i, k ≤ i → i < N → P i = false) ∨ (q = .inr 1 ∧ ∃ i, k ≤ i ∧ i < N ∧ P i = true)) := by
  intro n
  induction n with
  | zero =>
    intro k hk
    obtain rfl : k = N := by omega
    exact ⟨_, it_r hx, Or.inl ⟨rfl, fun i h1 h2 => by omega⟩⟩
  | succ n ih =>
    intro k hk
    have h1 := h k (by omega)
    cases hp : P k with
    | true =>
      rw [hp] at h1
      exact ⟨_, it_r h1, Or.inr ⟨rfl, k, Nat.le_refl _, by omega, hp⟩⟩
    | false =>
      rw [hp] at h1
      obtain ⟨q, h2, h3⟩ := ih (k + 1) (by omega)
      refine ⟨q, it_l h1 h2, ?_⟩
      rcases h3 with ⟨h4, h5⟩ | ⟨h4, i, h5, h6, h7⟩
      · refine Or.inl ⟨h4, fun i h6 h7 => ?_⟩
        by_cases e : i = k
        · rw [e]; exact hp
        · exact h5 i (by omega) h7
      · exact Or.inr ⟨h4, i, by omega, h6, h7⟩
theorem it_any {f : Int32 → Option (Int32 ⊕ (Unit ⊕ Int32))} (P : Nat → Bool) (N : Nat) (hN : N < 2999999) (h : ∀ i, i < N → f (nI i) = some (if P i = true then .inr (.inr 1) else .inl (nI (i + 1)))) (hx : f (nI N) = some (.inr (.inl ()))) : (it f LIM 0).bind (fun q => els q (fun _ => some 0) (fun v => some v)) = some (if ct P N = 0 then 0 else 1) := by
  obtain ⟨q, h1, h2⟩ := it_anyK P N h hx N 0 (by omega)
  rw [show it f LIM 0 = some q from it_mono (show N + 1 ≤ 3000000 by omega) h1]
  rcases h2 with ⟨rfl, h3⟩ | ⟨rfl, i, -, h4, h5⟩
  · rw [if_pos (ct_zero.mpr (fun i hi => h3 i (by omega) hi))]; rfl
  · rw [if_neg (fun z => by have := ct_zero.mp z i h4; rw [h5] at this; cases this)]; rfl
-- copies
def cpM (μ : Mem) (K1 b1 K2 b2 n : Nat) : Mem := fun K j f => if K = K1 ∧ j = 0 ∧ b1 ≤ f ∧ f < b1 + n then μ K2 0 (b2 + (f - b1)) else μ K j f
theorem cpM_0 {μ : Mem} {K1 b1 K2 b2 : Nat} : cpM μ K1 b1 K2 b2 0 = μ := by
  funext K j f
  unfold cpM
  rw [if_neg (by omega)]
theorem cpM_K {μ : Mem} {K1 b1 K2 b2 n K : Nat} (h : K ≠ K1) : cpM μ K1 b1 K2 b2 n K = μ K := by
  funext j f
  unfold cpM
  rw [if_neg (fun z => h z.1)]
theorem cpM_in {μ : Mem} {K1 b1 K2 b2 n i : Nat} (h : i < n) : cpM μ K1 b1 K2 b2 n K1 0 (b1 + i) = μ K2 0 (b2 + i) := by
  unfold cpM
  rw [if_pos ⟨rfl, rfl, by omega, by omega⟩, show b1 + i - b1 = i by omega]
theorem cpM_out {μ : Mem} {K1 b1 K2 b2 n f : Nat} (h : f < b1 ∨ b1 + n ≤ f) : cpM μ K1 b1 K2 b2 n K1 0 f = μ K1 0 f := by
  unfold cpM
  rw [if_neg (by omega)]
theorem cpM_st {μ : Mem} {K1 b1 K2 b2 i : Nat} (hb : K1 ≠ K2 ∨ b1 ≤ b2) : st3 (cpM μ K1 b1 K2 b2 i) K1 0 (b1 + i) (cpM μ K1 b1 K2 b2 i K2 0 (b2 + i)) = cpM μ K1 b1 K2 b2 (i + 1) := by
  have e : cpM μ K1 b1 K2 b2 i K2 0 (b2 + i) = μ K2 0 (b2 + i) := by
    unfold cpM
    rw [if_neg (by omega)]
  rw [e]
  funext K j f
  unfold st3 cpM
  by_cases h1 : K = K1 ∧ j = 0 ∧ f = b1 + i
  · obtain ⟨rfl, rfl, rfl⟩ := h1
    rw [if_pos ⟨rfl, rfl, rfl⟩, if_pos ⟨rfl, rfl, by omega, by omega⟩, show b1 + i - b1 = i by omega]
  · rw [if_neg h1]
    by_cases h2 : K = K1 ∧ j = 0 ∧ b1 ≤ f ∧ f < b1 + i
    · rw [if_pos h2, if_pos (by omega)]
    · rw [if_neg h2, if_neg (by omega)]
theorem it_cp {f : Int32 × Mem → Option ((Int32 × Mem) ⊕ Mem)} (μ : Mem) (K1 b1 K2 b2 N : Nat) (hb : K1 ≠ K2 ∨ b1 ≤ b2) (hN : N < 2999999)
    (h : ∀ i, i < N → f (nI i, cpM μ K1 b1 K2 b2 i) = some (.inl (nI (i + 1), st3 (cpM μ K1 b1 K2 b2 i) K1 0 (b1 + i) (cpM μ K1 b1 K2 b2 i K2 0 (b2 + i))))) (hx : ∀ m, f (nI N, m) = some (.inr m)) : it f LIM (0, μ) = some (cpM μ K1 b1 K2 b2 N) := by
  obtain ⟨r, h1, rfl⟩ := it_for (f := f) (s := (0, μ)) (fun i s => s = (nI i, cpM μ K1 b1 K2 b2 i)) (fun r => r = cpM μ K1 b1 K2 b2 N) N 0 (by omega) hN (by rw [cpM_0]; rfl)
    (fun i hi s hs => by subst hs; exact ⟨_, h i hi, by rw [cpM_st hb]⟩) (fun s hs => by subst hs; exact ⟨_, hx _, rfl⟩)
  exact h1
-- numbers
theorem nI_lit0 : (0 : Int32) = nI 0 := rfl
theorem nb01 {x : Int32} (h : x = 0 ∨ x = 1) : nb .boolean x = true := by rcases h with rfl | rfl <;> rfl
/-- 1 if x is one of the numbers below n -/
def ixB (x : Int32) (n : Nat) : Int32 := if x < 0 ∨ nI n ≤ x then 0 else 1
theorem ixB_c (x : Int32) {n : Nat} (hn : n < 2 ^ 31) : (ixB x n = 0 ∧ (x < 0 ∨ nI n ≤ x) ∧ ∀ j, j < n → x ≠ nI j) ∨ (ixB x n = 1 ∧ ∃ j, j < n ∧ x = nI j) := by
  rcases pk_ix x hn with h | h | ⟨j, h1, rfl⟩
  · refine Or.inl ⟨if_pos (Or.inl h), Or.inl h, fun j hj e => ?_⟩
    subst e
    exact nI_pos (by omega) h
  · refine Or.inl ⟨if_pos (Or.inr h), Or.inr h, fun j hj e => ?_⟩
    subst e
    have := (nI_leI (by omega) (by omega)).mp h
    omega
  · refine Or.inr ⟨if_neg ?_, j, h1, rfl⟩
    rintro (h | h)
    · exact nI_pos (by omega) h
    · have := (nI_leI (by omega) (by omega)).mp h
      omega
theorem ixB_in {j n : Nat} (hn : n < 2 ^ 31) (h : j < n) : ixB (nI j) n = 1 := by
  rcases ixB_c (nI j) hn with ⟨-, -, h1⟩ | ⟨h1, -⟩
  · exact absurd rfl (h1 j h)
  · exact h1
theorem tn_0 : (0 : Int32).toNatClampNeg = 0 := by decide +kernel
theorem tn_1 : (1 : Int32).toNatClampNeg = 1 := by decide +kernel
theorem tn_2 : (2 : Int32).toNatClampNeg = 2 := by decide +kernel
theorem tn_3 : (3 : Int32).toNatClampNeg = 3 := by decide +kernel
theorem tn_4 : (4 : Int32).toNatClampNeg = 4 := by decide +kernel
theorem tn_5 : (5 : Int32).toNatClampNeg = 5 := by decide +kernel
theorem tn_6 : (6 : Int32).toNatClampNeg = 6 := by decide +kernel
theorem tn_7 : (7 : Int32).toNatClampNeg = 7 := by decide +kernel
theorem tn_8 : (8 : Int32).toNatClampNeg = 8 := by decide +kernel
theorem tn_9 : (9 : Int32).toNatClampNeg = 9 := by decide +kernel
theorem tn_10 : (10 : Int32).toNatClampNeg = 10 := by decide +kernel
theorem tn_11 : (11 : Int32).toNatClampNeg = 11 := by decide +kernel
theorem tn_12 : (12 : Int32).toNatClampNeg = 12 := by decide +kernel
theorem tn_13 : (13 : Int32).toNatClampNeg = 13 := by decide +kernel
theorem tn_14 : (14 : Int32).toNatClampNeg = 14 := by decide +kernel
theorem tn_15 : (15 : Int32).toNatClampNeg = 15 := by decide +kernel
theorem tn_500 : (500 : Int32).toNatClampNeg = 500 := by decide +kernel
theorem tn_24 : (24 : Int32).toNatClampNeg = 24 := by decide +kernel
theorem tn_60 : (60 : Int32).toNatClampNeg = 60 := by decide +kernel
theorem ib_0_2 : inb 0 2 = true := by decide +kernel
theorem ib_1_2 : inb 1 2 = true := by decide +kernel
theorem ib_0_5 : inb 0 5 = true := by decide +kernel
theorem ib_0_8 : inb 0 8 = true := by decide +kernel
theorem ib_7_8 : inb 7 8 = true := by decide +kernel
theorem ib_0_24 : inb 0 24 = true := by decide +kernel
theorem ib_0_60 : inb 0 60 = true := by decide +kernel
theorem ib_0_524 : inb 0 524 = true := by decide +kernel
theorem ib_1_524 : inb 1 524 = true := by decide +kernel
theorem ib_2_524 : inb 2 524 = true := by decide +kernel
theorem ib_3_524 : inb 3 524 = true := by decide +kernel
theorem ib_4_524 : inb 4 524 = true := by decide +kernel
theorem ib_5_524 : inb 5 524 = true := by decide +kernel
theorem ib_6_524 : inb 6 524 = true := by decide +kernel
theorem ib_7_524 : inb 7 524 = true := by decide +kernel
theorem ib_8_524 : inb 8 524 = true := by decide +kernel
theorem ib_9_524 : inb 9 524 = true := by decide +kernel
theorem ib_10_524 : inb 10 524 = true := by decide +kernel
theorem ib_11_524 : inb 11 524 = true := by decide +kernel
theorem ib_12_524 : inb 12 524 = true := by decide +kernel
theorem ib_13_524 : inb 13 524 = true := by decide +kernel
theorem ib_14_524 : inb 14 524 = true := by decide +kernel
theorem ib_15_524 : inb 15 524 = true := by decide +kernel
theorem ib_500_524 : inb 500 524 = true := by decide +kernel
theorem gl_1 {k : Nat} (h : k < 1) : ¬ (1 : Int32) ≤ nI k := nI_ge (b := 1) h (by omega)
theorem lg_1 {k : Nat} (h : 1 ≤ k) (hk : k < 2 ^ 31) : (1 : Int32) ≤ nI k := nI_le (a := 1) h hk
theorem ll_1 {k : Nat} (h : k < 1) : nI k < (1 : Int32) := nI_lt (b := 1) h (by omega)
theorem nl_1 {k : Nat} (h : 1 ≤ k) (hk : k < 2 ^ 31) : ¬ nI k < (1 : Int32) := nI_nlt (b := 1) h hk
theorem gg_1 {k : Nat} (h : 1 < k) (hk : k < 2 ^ 31) : (1 : Int32) < nI k := nI_lt (a := 1) h hk
theorem ng_1 {k : Nat} (h : k ≤ 1) : ¬ (1 : Int32) < nI k := nI_nlt (a := 1) h (by omega)
theorem le_1 {k : Nat} (h : k ≤ 1) : nI k ≤ (1 : Int32) := nI_le (b := 1) h (by omega)
theorem nle_1 {k : Nat} (h : 1 < k) (hk : k < 2 ^ 31) : ¬ nI k ≤ (1 : Int32) := nI_ge (a := 1) h hk
theorem eq_1 {k : Nat} (hk : k < 2 ^ 31) : nI k = (1 : Int32) ↔ k = 1 := nI_eq (b := 1) hk (by omega)
theorem gl_2 {k : Nat} (h : k < 2) : ¬ (2 : Int32) ≤ nI k := nI_ge (b := 2) h (by omega)
theorem lg_2 {k : Nat} (h : 2 ≤ k) (hk : k < 2 ^ 31) : (2 : Int32) ≤ nI k := nI_le (a := 2) h hk
theorem ll_2 {k : Nat} (h : k < 2) : nI k < (2 : Int32) := nI_lt (b := 2) h (by omega)
theorem nl_2 {k : Nat} (h : 2 ≤ k) (hk : k < 2 ^ 31) : ¬ nI k < (2 : Int32) := nI_nlt (b := 2) h hk
theorem gg_2 {k : Nat} (h : 2 < k) (hk : k < 2 ^ 31) : (2 : Int32) < nI k := nI_lt (a := 2) h hk
theorem ng_2 {k : Nat} (h : k ≤ 2) : ¬ (2 : Int32) < nI k := nI_nlt (a := 2) h (by omega)
theorem le_2 {k : Nat} (h : k ≤ 2) : nI k ≤ (2 : Int32) := nI_le (b := 2) h (by omega)
theorem nle_2 {k : Nat} (h : 2 < k) (hk : k < 2 ^ 31) : ¬ nI k ≤ (2 : Int32) := nI_ge (a := 2) h hk
theorem eq_2 {k : Nat} (hk : k < 2 ^ 31) : nI k = (2 : Int32) ↔ k = 2 := nI_eq (b := 2) hk (by omega)
theorem gl_3 {k : Nat} (h : k < 3) : ¬ (3 : Int32) ≤ nI k := nI_ge (b := 3) h (by omega)
theorem lg_3 {k : Nat} (h : 3 ≤ k) (hk : k < 2 ^ 31) : (3 : Int32) ≤ nI k := nI_le (a := 3) h hk
theorem ll_3 {k : Nat} (h : k < 3) : nI k < (3 : Int32) := nI_lt (b := 3) h (by omega)
theorem nl_3 {k : Nat} (h : 3 ≤ k) (hk : k < 2 ^ 31) : ¬ nI k < (3 : Int32) := nI_nlt (b := 3) h hk
theorem gg_3 {k : Nat} (h : 3 < k) (hk : k < 2 ^ 31) : (3 : Int32) < nI k := nI_lt (a := 3) h hk
theorem ng_3 {k : Nat} (h : k ≤ 3) : ¬ (3 : Int32) < nI k := nI_nlt (a := 3) h (by omega)
theorem le_3 {k : Nat} (h : k ≤ 3) : nI k ≤ (3 : Int32) := nI_le (b := 3) h (by omega)
theorem nle_3 {k : Nat} (h : 3 < k) (hk : k < 2 ^ 31) : ¬ nI k ≤ (3 : Int32) := nI_ge (a := 3) h hk
theorem eq_3 {k : Nat} (hk : k < 2 ^ 31) : nI k = (3 : Int32) ↔ k = 3 := nI_eq (b := 3) hk (by omega)
theorem gl_5 {k : Nat} (h : k < 5) : ¬ (5 : Int32) ≤ nI k := nI_ge (b := 5) h (by omega)
theorem lg_5 {k : Nat} (h : 5 ≤ k) (hk : k < 2 ^ 31) : (5 : Int32) ≤ nI k := nI_le (a := 5) h hk
theorem ll_5 {k : Nat} (h : k < 5) : nI k < (5 : Int32) := nI_lt (b := 5) h (by omega)
theorem nl_5 {k : Nat} (h : 5 ≤ k) (hk : k < 2 ^ 31) : ¬ nI k < (5 : Int32) := nI_nlt (b := 5) h hk
theorem gg_5 {k : Nat} (h : 5 < k) (hk : k < 2 ^ 31) : (5 : Int32) < nI k := nI_lt (a := 5) h hk
theorem ng_5 {k : Nat} (h : k ≤ 5) : ¬ (5 : Int32) < nI k := nI_nlt (a := 5) h (by omega)
theorem le_5 {k : Nat} (h : k ≤ 5) : nI k ≤ (5 : Int32) := nI_le (b := 5) h (by omega)
theorem nle_5 {k : Nat} (h : 5 < k) (hk : k < 2 ^ 31) : ¬ nI k ≤ (5 : Int32) := nI_ge (a := 5) h hk
theorem eq_5 {k : Nat} (hk : k < 2 ^ 31) : nI k = (5 : Int32) ↔ k = 5 := nI_eq (b := 5) hk (by omega)
theorem gl_6 {k : Nat} (h : k < 6) : ¬ (6 : Int32) ≤ nI k := nI_ge (b := 6) h (by omega)
theorem lg_6 {k : Nat} (h : 6 ≤ k) (hk : k < 2 ^ 31) : (6 : Int32) ≤ nI k := nI_le (a := 6) h hk
theorem ll_6 {k : Nat} (h : k < 6) : nI k < (6 : Int32) := nI_lt (b := 6) h (by omega)
theorem nl_6 {k : Nat} (h : 6 ≤ k) (hk : k < 2 ^ 31) : ¬ nI k < (6 : Int32) := nI_nlt (b := 6) h hk
theorem gg_6 {k : Nat} (h : 6 < k) (hk : k < 2 ^ 31) : (6 : Int32) < nI k := nI_lt (a := 6) h hk
theorem ng_6 {k : Nat} (h : k ≤ 6) : ¬ (6 : Int32) < nI k := nI_nlt (a := 6) h (by omega)
theorem le_6 {k : Nat} (h : k ≤ 6) : nI k ≤ (6 : Int32) := nI_le (b := 6) h (by omega)
theorem nle_6 {k : Nat} (h : 6 < k) (hk : k < 2 ^ 31) : ¬ nI k ≤ (6 : Int32) := nI_ge (a := 6) h hk
theorem eq_6 {k : Nat} (hk : k < 2 ^ 31) : nI k = (6 : Int32) ↔ k = 6 := nI_eq (b := 6) hk (by omega)
theorem gl_8 {k : Nat} (h : k < 8) : ¬ (8 : Int32) ≤ nI k := nI_ge (b := 8) h (by omega)
theorem lg_8 {k : Nat} (h : 8 ≤ k) (hk : k < 2 ^ 31) : (8 : Int32) ≤ nI k := nI_le (a := 8) h hk
theorem ll_8 {k : Nat} (h : k < 8) : nI k < (8 : Int32) := nI_lt (b := 8) h (by omega)
theorem nl_8 {k : Nat} (h : 8 ≤ k) (hk : k < 2 ^ 31) : ¬ nI k < (8 : Int32) := nI_nlt (b := 8) h hk
theorem gg_8 {k : Nat} (h : 8 < k) (hk : k < 2 ^ 31) : (8 : Int32) < nI k := nI_lt (a := 8) h hk
theorem ng_8 {k : Nat} (h : k ≤ 8) : ¬ (8 : Int32) < nI k := nI_nlt (a := 8) h (by omega)
theorem le_8 {k : Nat} (h : k ≤ 8) : nI k ≤ (8 : Int32) := nI_le (b := 8) h (by omega)
theorem nle_8 {k : Nat} (h : 8 < k) (hk : k < 2 ^ 31) : ¬ nI k ≤ (8 : Int32) := nI_ge (a := 8) h hk
theorem eq_8 {k : Nat} (hk : k < 2 ^ 31) : nI k = (8 : Int32) ↔ k = 8 := nI_eq (b := 8) hk (by omega)
theorem gl_12 {k : Nat} (h : k < 12) : ¬ (12 : Int32) ≤ nI k := nI_ge (b := 12) h (by omega)
theorem lg_12 {k : Nat} (h : 12 ≤ k) (hk : k < 2 ^ 31) : (12 : Int32) ≤ nI k := nI_le (a := 12) h hk
theorem ll_12 {k : Nat} (h : k < 12) : nI k < (12 : Int32) := nI_lt (b := 12) h (by omega)
theorem nl_12 {k : Nat} (h : 12 ≤ k) (hk : k < 2 ^ 31) : ¬ nI k < (12 : Int32) := nI_nlt (b := 12) h hk
theorem gg_12 {k : Nat} (h : 12 < k) (hk : k < 2 ^ 31) : (12 : Int32) < nI k := nI_lt (a := 12) h hk
theorem ng_12 {k : Nat} (h : k ≤ 12) : ¬ (12 : Int32) < nI k := nI_nlt (a := 12) h (by omega)
theorem le_12 {k : Nat} (h : k ≤ 12) : nI k ≤ (12 : Int32) := nI_le (b := 12) h (by omega)
theorem nle_12 {k : Nat} (h : 12 < k) (hk : k < 2 ^ 31) : ¬ nI k ≤ (12 : Int32) := nI_ge (a := 12) h hk
theorem eq_12 {k : Nat} (hk : k < 2 ^ 31) : nI k = (12 : Int32) ↔ k = 12 := nI_eq (b := 12) hk (by omega)
theorem gl_24 {k : Nat} (h : k < 24) : ¬ (24 : Int32) ≤ nI k := nI_ge (b := 24) h (by omega)
theorem lg_24 {k : Nat} (h : 24 ≤ k) (hk : k < 2 ^ 31) : (24 : Int32) ≤ nI k := nI_le (a := 24) h hk
theorem ll_24 {k : Nat} (h : k < 24) : nI k < (24 : Int32) := nI_lt (b := 24) h (by omega)
theorem nl_24 {k : Nat} (h : 24 ≤ k) (hk : k < 2 ^ 31) : ¬ nI k < (24 : Int32) := nI_nlt (b := 24) h hk
theorem gg_24 {k : Nat} (h : 24 < k) (hk : k < 2 ^ 31) : (24 : Int32) < nI k := nI_lt (a := 24) h hk
theorem ng_24 {k : Nat} (h : k ≤ 24) : ¬ (24 : Int32) < nI k := nI_nlt (a := 24) h (by omega)
theorem le_24 {k : Nat} (h : k ≤ 24) : nI k ≤ (24 : Int32) := nI_le (b := 24) h (by omega)
theorem nle_24 {k : Nat} (h : 24 < k) (hk : k < 2 ^ 31) : ¬ nI k ≤ (24 : Int32) := nI_ge (a := 24) h hk
theorem eq_24 {k : Nat} (hk : k < 2 ^ 31) : nI k = (24 : Int32) ↔ k = 24 := nI_eq (b := 24) hk (by omega)
theorem gl_30 {k : Nat} (h : k < 30) : ¬ (30 : Int32) ≤ nI k := nI_ge (b := 30) h (by omega)
theorem lg_30 {k : Nat} (h : 30 ≤ k) (hk : k < 2 ^ 31) : (30 : Int32) ≤ nI k := nI_le (a := 30) h hk
theorem ll_30 {k : Nat} (h : k < 30) : nI k < (30 : Int32) := nI_lt (b := 30) h (by omega)
theorem nl_30 {k : Nat} (h : 30 ≤ k) (hk : k < 2 ^ 31) : ¬ nI k < (30 : Int32) := nI_nlt (b := 30) h hk
theorem gg_30 {k : Nat} (h : 30 < k) (hk : k < 2 ^ 31) : (30 : Int32) < nI k := nI_lt (a := 30) h hk
theorem ng_30 {k : Nat} (h : k ≤ 30) : ¬ (30 : Int32) < nI k := nI_nlt (a := 30) h (by omega)
theorem le_30 {k : Nat} (h : k ≤ 30) : nI k ≤ (30 : Int32) := nI_le (b := 30) h (by omega)
theorem nle_30 {k : Nat} (h : 30 < k) (hk : k < 2 ^ 31) : ¬ nI k ≤ (30 : Int32) := nI_ge (a := 30) h hk
theorem eq_30 {k : Nat} (hk : k < 2 ^ 31) : nI k = (30 : Int32) ↔ k = 30 := nI_eq (b := 30) hk (by omega)
theorem gl_40 {k : Nat} (h : k < 40) : ¬ (40 : Int32) ≤ nI k := nI_ge (b := 40) h (by omega)
theorem lg_40 {k : Nat} (h : 40 ≤ k) (hk : k < 2 ^ 31) : (40 : Int32) ≤ nI k := nI_le (a := 40) h hk
theorem ll_40 {k : Nat} (h : k < 40) : nI k < (40 : Int32) := nI_lt (b := 40) h (by omega)
theorem nl_40 {k : Nat} (h : 40 ≤ k) (hk : k < 2 ^ 31) : ¬ nI k < (40 : Int32) := nI_nlt (b := 40) h hk
theorem gg_40 {k : Nat} (h : 40 < k) (hk : k < 2 ^ 31) : (40 : Int32) < nI k := nI_lt (a := 40) h hk
theorem ng_40 {k : Nat} (h : k ≤ 40) : ¬ (40 : Int32) < nI k := nI_nlt (a := 40) h (by omega)
theorem le_40 {k : Nat} (h : k ≤ 40) : nI k ≤ (40 : Int32) := nI_le (b := 40) h (by omega)
theorem nle_40 {k : Nat} (h : 40 < k) (hk : k < 2 ^ 31) : ¬ nI k ≤ (40 : Int32) := nI_ge (a := 40) h hk
theorem eq_40 {k : Nat} (hk : k < 2 ^ 31) : nI k = (40 : Int32) ↔ k = 40 := nI_eq (b := 40) hk (by omega)
theorem gl_60 {k : Nat} (h : k < 60) : ¬ (60 : Int32) ≤ nI k := nI_ge (b := 60) h (by omega)
theorem lg_60 {k : Nat} (h : 60 ≤ k) (hk : k < 2 ^ 31) : (60 : Int32) ≤ nI k := nI_le (a := 60) h hk
theorem ll_60 {k : Nat} (h : k < 60) : nI k < (60 : Int32) := nI_lt (b := 60) h (by omega)
theorem nl_60 {k : Nat} (h : 60 ≤ k) (hk : k < 2 ^ 31) : ¬ nI k < (60 : Int32) := nI_nlt (b := 60) h hk
theorem gg_60 {k : Nat} (h : 60 < k) (hk : k < 2 ^ 31) : (60 : Int32) < nI k := nI_lt (a := 60) h hk
theorem ng_60 {k : Nat} (h : k ≤ 60) : ¬ (60 : Int32) < nI k := nI_nlt (a := 60) h (by omega)
theorem le_60 {k : Nat} (h : k ≤ 60) : nI k ≤ (60 : Int32) := nI_le (b := 60) h (by omega)
theorem nle_60 {k : Nat} (h : 60 < k) (hk : k < 2 ^ 31) : ¬ nI k ≤ (60 : Int32) := nI_ge (a := 60) h hk
theorem eq_60 {k : Nat} (hk : k < 2 ^ 31) : nI k = (60 : Int32) ↔ k = 60 := nI_eq (b := 60) hk (by omega)
theorem gl_99 {k : Nat} (h : k < 99) : ¬ (99 : Int32) ≤ nI k := nI_ge (b := 99) h (by omega)
theorem lg_99 {k : Nat} (h : 99 ≤ k) (hk : k < 2 ^ 31) : (99 : Int32) ≤ nI k := nI_le (a := 99) h hk
theorem ll_99 {k : Nat} (h : k < 99) : nI k < (99 : Int32) := nI_lt (b := 99) h (by omega)
theorem nl_99 {k : Nat} (h : 99 ≤ k) (hk : k < 2 ^ 31) : ¬ nI k < (99 : Int32) := nI_nlt (b := 99) h hk
theorem gg_99 {k : Nat} (h : 99 < k) (hk : k < 2 ^ 31) : (99 : Int32) < nI k := nI_lt (a := 99) h hk
theorem ng_99 {k : Nat} (h : k ≤ 99) : ¬ (99 : Int32) < nI k := nI_nlt (a := 99) h (by omega)
theorem le_99 {k : Nat} (h : k ≤ 99) : nI k ≤ (99 : Int32) := nI_le (b := 99) h (by omega)
theorem nle_99 {k : Nat} (h : 99 < k) (hk : k < 2 ^ 31) : ¬ nI k ≤ (99 : Int32) := nI_ge (a := 99) h hk
theorem eq_99 {k : Nat} (hk : k < 2 ^ 31) : nI k = (99 : Int32) ↔ k = 99 := nI_eq (b := 99) hk (by omega)
theorem gl_200 {k : Nat} (h : k < 200) : ¬ (200 : Int32) ≤ nI k := nI_ge (b := 200) h (by omega)
theorem lg_200 {k : Nat} (h : 200 ≤ k) (hk : k < 2 ^ 31) : (200 : Int32) ≤ nI k := nI_le (a := 200) h hk
theorem ll_200 {k : Nat} (h : k < 200) : nI k < (200 : Int32) := nI_lt (b := 200) h (by omega)
theorem nl_200 {k : Nat} (h : 200 ≤ k) (hk : k < 2 ^ 31) : ¬ nI k < (200 : Int32) := nI_nlt (b := 200) h hk
theorem gg_200 {k : Nat} (h : 200 < k) (hk : k < 2 ^ 31) : (200 : Int32) < nI k := nI_lt (a := 200) h hk
theorem ng_200 {k : Nat} (h : k ≤ 200) : ¬ (200 : Int32) < nI k := nI_nlt (a := 200) h (by omega)
theorem le_200 {k : Nat} (h : k ≤ 200) : nI k ≤ (200 : Int32) := nI_le (b := 200) h (by omega)
theorem nle_200 {k : Nat} (h : 200 < k) (hk : k < 2 ^ 31) : ¬ nI k ≤ (200 : Int32) := nI_ge (a := 200) h hk
theorem eq_200 {k : Nat} (hk : k < 2 ^ 31) : nI k = (200 : Int32) ↔ k = 200 := nI_eq (b := 200) hk (by omega)
theorem gl_300 {k : Nat} (h : k < 300) : ¬ (300 : Int32) ≤ nI k := nI_ge (b := 300) h (by omega)
theorem lg_300 {k : Nat} (h : 300 ≤ k) (hk : k < 2 ^ 31) : (300 : Int32) ≤ nI k := nI_le (a := 300) h hk
theorem ll_300 {k : Nat} (h : k < 300) : nI k < (300 : Int32) := nI_lt (b := 300) h (by omega)
theorem nl_300 {k : Nat} (h : 300 ≤ k) (hk : k < 2 ^ 31) : ¬ nI k < (300 : Int32) := nI_nlt (b := 300) h hk
theorem gg_300 {k : Nat} (h : 300 < k) (hk : k < 2 ^ 31) : (300 : Int32) < nI k := nI_lt (a := 300) h hk
theorem ng_300 {k : Nat} (h : k ≤ 300) : ¬ (300 : Int32) < nI k := nI_nlt (a := 300) h (by omega)
theorem le_300 {k : Nat} (h : k ≤ 300) : nI k ≤ (300 : Int32) := nI_le (b := 300) h (by omega)
theorem nle_300 {k : Nat} (h : 300 < k) (hk : k < 2 ^ 31) : ¬ nI k ≤ (300 : Int32) := nI_ge (a := 300) h hk
theorem eq_300 {k : Nat} (hk : k < 2 ^ 31) : nI k = (300 : Int32) ↔ k = 300 := nI_eq (b := 300) hk (by omega)
theorem gl_524 {k : Nat} (h : k < 524) : ¬ (524 : Int32) ≤ nI k := nI_ge (b := 524) h (by omega)
theorem lg_524 {k : Nat} (h : 524 ≤ k) (hk : k < 2 ^ 31) : (524 : Int32) ≤ nI k := nI_le (a := 524) h hk
theorem ll_524 {k : Nat} (h : k < 524) : nI k < (524 : Int32) := nI_lt (b := 524) h (by omega)
theorem nl_524 {k : Nat} (h : 524 ≤ k) (hk : k < 2 ^ 31) : ¬ nI k < (524 : Int32) := nI_nlt (b := 524) h hk
theorem gg_524 {k : Nat} (h : 524 < k) (hk : k < 2 ^ 31) : (524 : Int32) < nI k := nI_lt (a := 524) h hk
theorem ng_524 {k : Nat} (h : k ≤ 524) : ¬ (524 : Int32) < nI k := nI_nlt (a := 524) h (by omega)
theorem le_524 {k : Nat} (h : k ≤ 524) : nI k ≤ (524 : Int32) := nI_le (b := 524) h (by omega)
theorem nle_524 {k : Nat} (h : 524 < k) (hk : k < 2 ^ 31) : ¬ nI k ≤ (524 : Int32) := nI_ge (a := 524) h hk
theorem eq_524 {k : Nat} (hk : k < 2 ^ 31) : nI k = (524 : Int32) ↔ k = 524 := nI_eq (b := 524) hk (by omega)
theorem gl_800 {k : Nat} (h : k < 800) : ¬ (800 : Int32) ≤ nI k := nI_ge (b := 800) h (by omega)
theorem lg_800 {k : Nat} (h : 800 ≤ k) (hk : k < 2 ^ 31) : (800 : Int32) ≤ nI k := nI_le (a := 800) h hk
theorem ll_800 {k : Nat} (h : k < 800) : nI k < (800 : Int32) := nI_lt (b := 800) h (by omega)
theorem nl_800 {k : Nat} (h : 800 ≤ k) (hk : k < 2 ^ 31) : ¬ nI k < (800 : Int32) := nI_nlt (b := 800) h hk
theorem gg_800 {k : Nat} (h : 800 < k) (hk : k < 2 ^ 31) : (800 : Int32) < nI k := nI_lt (a := 800) h hk
theorem ng_800 {k : Nat} (h : k ≤ 800) : ¬ (800 : Int32) < nI k := nI_nlt (a := 800) h (by omega)
theorem le_800 {k : Nat} (h : k ≤ 800) : nI k ≤ (800 : Int32) := nI_le (b := 800) h (by omega)
theorem nle_800 {k : Nat} (h : 800 < k) (hk : k < 2 ^ 31) : ¬ nI k ≤ (800 : Int32) := nI_ge (a := 800) h hk
theorem eq_800 {k : Nat} (hk : k < 2 ^ 31) : nI k = (800 : Int32) ↔ k = 800 := nI_eq (b := 800) hk (by omega)
theorem gl_999 {k : Nat} (h : k < 999) : ¬ (999 : Int32) ≤ nI k := nI_ge (b := 999) h (by omega)
theorem lg_999 {k : Nat} (h : 999 ≤ k) (hk : k < 2 ^ 31) : (999 : Int32) ≤ nI k := nI_le (a := 999) h hk
theorem ll_999 {k : Nat} (h : k < 999) : nI k < (999 : Int32) := nI_lt (b := 999) h (by omega)
theorem nl_999 {k : Nat} (h : 999 ≤ k) (hk : k < 2 ^ 31) : ¬ nI k < (999 : Int32) := nI_nlt (b := 999) h hk
theorem gg_999 {k : Nat} (h : 999 < k) (hk : k < 2 ^ 31) : (999 : Int32) < nI k := nI_lt (a := 999) h hk
theorem ng_999 {k : Nat} (h : k ≤ 999) : ¬ (999 : Int32) < nI k := nI_nlt (a := 999) h (by omega)
theorem le_999 {k : Nat} (h : k ≤ 999) : nI k ≤ (999 : Int32) := nI_le (b := 999) h (by omega)
theorem nle_999 {k : Nat} (h : 999 < k) (hk : k < 2 ^ 31) : ¬ nI k ≤ (999 : Int32) := nI_ge (a := 999) h hk
theorem eq_999 {k : Nat} (hk : k < 2 ^ 31) : nI k = (999 : Int32) ↔ k = 999 := nI_eq (b := 999) hk (by omega)
theorem gl_3668 {k : Nat} (h : k < 3668) : ¬ (3668 : Int32) ≤ nI k := nI_ge (b := 3668) h (by omega)
theorem lg_3668 {k : Nat} (h : 3668 ≤ k) (hk : k < 2 ^ 31) : (3668 : Int32) ≤ nI k := nI_le (a := 3668) h hk
theorem ll_3668 {k : Nat} (h : k < 3668) : nI k < (3668 : Int32) := nI_lt (b := 3668) h (by omega)
theorem nl_3668 {k : Nat} (h : 3668 ≤ k) (hk : k < 2 ^ 31) : ¬ nI k < (3668 : Int32) := nI_nlt (b := 3668) h hk
theorem gg_3668 {k : Nat} (h : 3668 < k) (hk : k < 2 ^ 31) : (3668 : Int32) < nI k := nI_lt (a := 3668) h hk
theorem ng_3668 {k : Nat} (h : k ≤ 3668) : ¬ (3668 : Int32) < nI k := nI_nlt (a := 3668) h (by omega)
theorem le_3668 {k : Nat} (h : k ≤ 3668) : nI k ≤ (3668 : Int32) := nI_le (b := 3668) h (by omega)
theorem nle_3668 {k : Nat} (h : 3668 < k) (hk : k < 2 ^ 31) : ¬ nI k ≤ (3668 : Int32) := nI_ge (a := 3668) h hk
theorem eq_3668 {k : Nat} (hk : k < 2 ^ 31) : nI k = (3668 : Int32) ↔ k = 3668 := nI_eq (b := 3668) hk (by omega)
theorem gl_9999 {k : Nat} (h : k < 9999) : ¬ (9999 : Int32) ≤ nI k := nI_ge (b := 9999) h (by omega)
theorem lg_9999 {k : Nat} (h : 9999 ≤ k) (hk : k < 2 ^ 31) : (9999 : Int32) ≤ nI k := nI_le (a := 9999) h hk
theorem ll_9999 {k : Nat} (h : k < 9999) : nI k < (9999 : Int32) := nI_lt (b := 9999) h (by omega)
theorem nl_9999 {k : Nat} (h : 9999 ≤ k) (hk : k < 2 ^ 31) : ¬ nI k < (9999 : Int32) := nI_nlt (b := 9999) h hk
theorem gg_9999 {k : Nat} (h : 9999 < k) (hk : k < 2 ^ 31) : (9999 : Int32) < nI k := nI_lt (a := 9999) h hk
theorem ng_9999 {k : Nat} (h : k ≤ 9999) : ¬ (9999 : Int32) < nI k := nI_nlt (a := 9999) h (by omega)
theorem le_9999 {k : Nat} (h : k ≤ 9999) : nI k ≤ (9999 : Int32) := nI_le (b := 9999) h (by omega)
theorem nle_9999 {k : Nat} (h : 9999 < k) (hk : k < 2 ^ 31) : ¬ nI k ≤ (9999 : Int32) := nI_ge (a := 9999) h hk
theorem eq_9999 {k : Nat} (hk : k < 2 ^ 31) : nI k = (9999 : Int32) ↔ k = 9999 := nI_eq (b := 9999) hk (by omega)
theorem gl_1000000 {k : Nat} (h : k < 1000000) : ¬ (1000000 : Int32) ≤ nI k := nI_ge (b := 1000000) h (by omega)
theorem lg_1000000 {k : Nat} (h : 1000000 ≤ k) (hk : k < 2 ^ 31) : (1000000 : Int32) ≤ nI k := nI_le (a := 1000000) h hk
theorem ll_1000000 {k : Nat} (h : k < 1000000) : nI k < (1000000 : Int32) := nI_lt (b := 1000000) h (by omega)
theorem nl_1000000 {k : Nat} (h : 1000000 ≤ k) (hk : k < 2 ^ 31) : ¬ nI k < (1000000 : Int32) := nI_nlt (b := 1000000) h hk
theorem gg_1000000 {k : Nat} (h : 1000000 < k) (hk : k < 2 ^ 31) : (1000000 : Int32) < nI k := nI_lt (a := 1000000) h hk
theorem ng_1000000 {k : Nat} (h : k ≤ 1000000) : ¬ (1000000 : Int32) < nI k := nI_nlt (a := 1000000) h (by omega)
theorem le_1000000 {k : Nat} (h : k ≤ 1000000) : nI k ≤ (1000000 : Int32) := nI_le (b := 1000000) h (by omega)
theorem nle_1000000 {k : Nat} (h : 1000000 < k) (hk : k < 2 ^ 31) : ¬ nI k ≤ (1000000 : Int32) := nI_ge (a := 1000000) h hk
theorem eq_1000000 {k : Nat} (hk : k < 2 ^ 31) : nI k = (1000000 : Int32) ↔ k = 1000000 := nI_eq (b := 1000000) hk (by omega)
theorem gg_0 {k : Nat} (h : 0 < k) (hk : k < 2 ^ 31) : (0 : Int32) < nI k := nI_lt (a := 0) h hk
theorem ng_0 {k : Nat} (h : k = 0) : ¬ (0 : Int32) < nI k := by subst h; decide
theorem ne_0 {k : Nat} (h : 0 < k) (hk : k < 2 ^ 31) : ¬ nI k = 0 := nI_ne0 h hk
theorem le_0 {k : Nat} (h : 0 < k) (hk : k < 2 ^ 31) : ¬ nI k ≤ 0 := nI_nle h hk
theorem eq_0 {k : Nat} (hk : k < 2 ^ 31) : nI k = (0 : Int32) ↔ k = 0 := nI_eq (b := 0) hk (by omega)

/-! Steps of the class and commands of the model: blocks; what reading may change. -/
def SIM (μ ν : Mem) (i k : Nat) : Prop :=
  (μ 10 i 0 = 0 ∧ ν 47 0 k = 0 ∧ μ 10 i 1 = ν 48 0 (7 * k + 0) ∧ μ 10 i 2 = ν 48 0 (7 * k + 3) ∧ μ 10 i 3 = ν 48 0 (7 * k + 1) ∧ μ 10 i 4 = ν 48 0 (7 * k + 2) ∧ μ 10 i 5 = ν 48 0 (7 * k + 4) ∧ μ 10 i 6 = ν 48 0 (7 * k + 5) ∧ μ 10 i 7 = ν 48 0 (7 * k + 6) ∧ ((μ 10 i 2 = 1 ∧ μ 10 i 4 = -1) ∨ μ 10 i 2 = 0 ∨ μ 10 i 2 = 2)) ∨
  (μ 10 i 0 = 1 ∧ ν 47 0 k = 1 ∧ μ 10 i 3 = ν 48 0 (7 * k + 1) ∧ μ 10 i 4 = ν 48 0 (7 * k + 2)) ∨ (μ 10 i 0 = 2 ∧ ν 47 0 k = 2 ∧ μ 10 i 8 = ν 48 0 (7 * k + 0)) ∨ (μ 10 i 0 = 3 ∧ ν 47 0 k = 3 ∧ μ 10 i 8 = ν 48 0 (7 * k + 0))
def REP (μ ν : Mem) (i k e' q' : Nat) : Prop := μ 10 i 0 = 4 ∧ ν 47 0 k = 4 ∧ (∃ r, r ≤ 20 ∧ μ 10 i 8 = nI r ∧ ν 48 0 (7 * k + 0) = nI r) ∧ μ 10 i 9 = nI q' ∧ ν 48 0 (7 * k + 1) = nI e' ∧ μ 10 q' 0 = 5 ∧ μ 10 q' 9 = nI i
/-- the commands k to e are the steps p to q; brackets at most h deep -/
def BLK (μ ν : Mem) : Nat → Nat → Nat → Nat → Nat → Nat → Prop
  | 0, _, k, e, p, q => k = e ∧ p = q
  | n + 1, h, k, e, p, q => (k = e ∧ p = q) ∨ (SIM μ ν p k ∧ BLK μ ν n h (k + 1) e (p + 1) q) ∨ ∃ h' e' q', h = h' + 1 ∧ REP μ ν p k e' q' ∧ BLK μ ν n h' (k + 1) e' (p + 1) q' ∧ BLK μ ν n h e' e (q' + 1) q
section Blocks
variable {μ ν m v m' v' : Mem}
theorem BLK.le : ∀ {n h k e p q : Nat}, BLK μ ν n h k e p q → k ≤ e ∧ p ≤ q
  | 0, _, _, _, _, _, h => ⟨Nat.le_of_eq h.1, Nat.le_of_eq h.2⟩
  | n + 1, h, k, e, p, q, H => by
    rcases H with ⟨a, b⟩ | ⟨-, H⟩ | ⟨h', e', q', -, -, H1, H2⟩
    · omega
    · have := BLK.le H; omega
    · have := BLK.le H1; have := BLK.le H2; omega
theorem SIM.cong {i k : Nat} (h : SIM μ ν i k) (h1 : ∀ f, f ≠ 10 → m 10 i f = μ 10 i f) (h2 : v 47 0 k = ν 47 0 k) (h3 : ∀ q, q < 7 → v 48 0 (7 * k + q) = ν 48 0 (7 * k + q)) : SIM m v i k := by
  unfold SIM at h ⊢
  rw [h1 0 (by omega), h1 1 (by omega), h1 2 (by omega), h1 3 (by omega), h1 4 (by omega), h1 5 (by omega), h1 6 (by omega), h1 7 (by omega), h1 8 (by omega), h2, h3 0 (by omega), h3 1 (by omega), h3 2 (by omega), h3 3 (by omega), h3 4 (by omega), h3 5 (by omega), h3 6 (by omega)]
  exact h
theorem REP.cong {i k e' q' : Nat} (h : REP μ ν i k e' q') (h1 : ∀ f, f ≠ 10 → m 10 i f = μ 10 i f) (h0 : ∀ f, f ≠ 10 → m 10 q' f = μ 10 q' f) (h2 : v 47 0 k = ν 47 0 k) (h3 : ∀ q, q < 7 → v 48 0 (7 * k + q) = ν 48 0 (7 * k + q)) : REP m v i k e' q' := by
  unfold REP at h ⊢
  rw [h1 0 (by omega), h1 8 (by omega), h1 9 (by omega), h0 0 (by omega), h0 9 (by omega), h2, h3 0 (by omega), h3 1 (by omega)]
  exact h
theorem BLK.cong : ∀ {n h k e p q : Nat}, BLK μ ν n h k e p q → (∀ j f, p ≤ j → j < q → f ≠ 10 → m 10 j f = μ 10 j f) → (∀ z, k ≤ z → z < e → v 47 0 z = ν 47 0 z) → (∀ z, 7 * k ≤ z → z < 7 * e → v 48 0 z = ν 48 0 z) → BLK m v n h k e p q
  | 0, _, _, _, _, _, h, _, _, _ => h
  | n + 1, h, k, e, p, q, H, h1, h2, h3 => by
    rcases H with ⟨a, b⟩ | ⟨S, H⟩ | ⟨h', e', q', hh, R, H1, H2⟩
    · exact Or.inl ⟨a, b⟩
    · have := H.le
      exact Or.inr (Or.inl ⟨S.cong (fun f hf => h1 p f (by omega) (by omega) hf) (h2 k (by omega) (by omega)) (fun z hz => h3 _ (by omega) (by omega)), H.cong (fun j f a b c => h1 j f (by omega) b c) (fun z a b => h2 z (by omega) b) (fun z a b => h3 z (by omega) b)⟩)
    · have l1 := H1.le
      have l2 := H2.le
      exact Or.inr (Or.inr ⟨h', e', q', hh, R.cong (fun f hf => h1 p f (by omega) (by omega) hf) (fun f hf => h1 q' f (by omega) (by omega) hf) (h2 k (by omega) (by omega)) (fun z hz => h3 _ (by omega) (by omega)), H1.cong (fun j f a b c => h1 j f (by omega) (by omega) c) (fun z a b => h2 z (by omega) (by omega)) (fun z a b => h3 z (by omega) (by omega)), H2.cong (fun j f a b c => h1 j f (by omega) b c) (fun z a b => h2 z (by omega) b) (fun z a b => h3 z (by omega) b)⟩)
theorem BLK.up : ∀ {n h k e p q : Nat}, BLK μ ν n h k e p q → BLK μ ν (n + 1) h k e p q
  | 0, _, _, _, _, _, H => Or.inl H
  | n + 1, h, k, e, p, q, H => by
    rcases H with H | ⟨S, H⟩ | ⟨h', e', q', hh, R, H1, H2⟩
    · exact Or.inl H
    · exact Or.inr (Or.inl ⟨S, H.up⟩)
    · exact Or.inr (Or.inr ⟨h', e', q', hh, R, H1.up, H2.up⟩)
theorem BLK.mono {h k e p q : Nat} : ∀ {n d : Nat}, BLK μ ν n h k e p q → BLK μ ν (n + d) h k e p q
  | _, 0, H => H
  | _, d + 1, H => (BLK.mono (d := d) H).up
theorem BLK.app {e2 q2 n2 : Nat} : ∀ {n h k e p q : Nat}, BLK μ ν n h k e p q → BLK μ ν n2 h e e2 q q2 → BLK μ ν (n + n2) h k e2 p q2
  | 0, _, _, _, _, _, H, H' => by
    obtain ⟨rfl, rfl⟩ := H
    rw [Nat.zero_add]
    exact H'
  | n + 1, h, k, e, p, q, H, H' => by
    rcases H with ⟨rfl, rfl⟩ | ⟨S, H⟩ | ⟨h', e', q', hh, R, H1, H2⟩
    · rw [Nat.add_comm]
      exact H'.mono
    · rw [show n + 1 + n2 = n + n2 + 1 by omega]
      exact Or.inr (Or.inl ⟨S, H.app H'⟩)
    · rw [show n + 1 + n2 = n + n2 + 1 by omega]
      exact Or.inr (Or.inr ⟨h', e', q', hh, R, H1.mono, H2.app H'⟩)
/-- what reading from the step p, the command c and the bracket x on may change -/
def FB (p c x : Nat) (μ m ν v : Mem) : Prop := (∀ K, K ≠ 6 → K ≠ 10 → K ≠ 22 → m K = μ K) ∧ (∀ j, j < p → m 10 j = μ 10 j) ∧ (∀ z, z < x → m 22 0 z = μ 22 0 z) ∧ (∀ K, K ≠ 13 → K ≠ 47 → K ≠ 48 → v K = ν K) ∧ (∀ f, f < 12 ∨ (17 < f ∧ f ≠ 20) → v 13 0 f = ν 13 0 f) ∧ (∀ z, z < c → v 47 0 z = ν 47 0 z) ∧ ∀ z, z < 7 * c → v 48 0 z = ν 48 0 z
theorem FB.rf {p c x : Nat} : FB p c x μ μ ν ν := ⟨fun _ _ _ _ => rfl, fun _ _ => rfl, fun _ _ => rfl, fun _ _ _ _ => rfl, fun _ _ => rfl, fun _ _ => rfl, fun _ _ => rfl⟩
theorem FB.tr {p c x p' c' x' : Nat} (h : FB p c x μ m ν v) (h' : FB p' c' x' m m' v v') (hp : p ≤ p') (hc : c ≤ c') (hx : x ≤ x') : FB p c x μ m' ν v' :=
  ⟨fun K a b d => (h'.1 K a b d).trans (h.1 K a b d), fun j a => (h'.2.1 j (by omega)).trans (h.2.1 j a), fun z a => (h'.2.2.1 z (by omega)).trans (h.2.2.1 z a), fun K a b d => (h'.2.2.2.1 K a b d).trans (h.2.2.2.1 K a b d), fun f a => (h'.2.2.2.2.1 f a).trans (h.2.2.2.2.1 f a), fun z a => (h'.2.2.2.2.2.1 z (by omega)).trans (h.2.2.2.2.2.1 z a), fun z a => (h'.2.2.2.2.2.2 z (by omega)).trans (h.2.2.2.2.2.2 z a)⟩
theorem FB.less {p c x p' c' x' : Nat} (h : FB p' c' x' μ m ν v) (hp : p ≤ p') (hc : c ≤ c') (hx : x ≤ x') : FB p c x μ m ν v := FB.tr FB.rf h hp hc hx
theorem FRD.fb {p c x : Nat} (h : FRD 6 μ m ν v) : FB p c x μ m ν v := ⟨fun K a _ _ => h.1 K a, fun j _ => by rw [h.1 10 (by omega)], fun z _ => by rw [h.1 22 (by omega)], fun K a _ _ => h.2.2.1 K a, fun f a => h.2.2.2 f (by omega), fun z _ => by rw [h.2.2.1 47 (by omega)], fun z _ => by rw [h.2.2.1 48 (by omega)]⟩
theorem FI.fb {i k p c x : Nat} (h : FI i k μ m ν v) (hp : p ≤ i) (hc : c ≤ k) : FB p c x μ m ν v := ⟨fun K a b _ => h.1 K a b, fun j a => by funext f; exact h.2.2.1 j f (by omega), fun z _ => by rw [h.1 22 (by omega) (by omega)], fun K a _ b => h.2.2.2.1 K a b, fun f a => h.2.2.2.2.1 f (by omega), fun z _ => by rw [h.2.2.2.1 47 (by omega) (by omega)], fun z a => h.2.2.2.2.2 z (by omega)⟩
theorem FB.st {p c x s E P C O : Nat} (h : FB p c x μ m ν v) (hT : ST μ s (ν 40 0) E P C O) : ST m s (v 40 0) E P C O := by
  rw [h.2.2.2.1 40 (by omega) (by omega) (by omega)]
  exact hT.mem (fun K q => h.1 K (by unfold setK at q; omega) (by unfold setK at q; omega) (by unfold setK at q; omega))
end Blocks
-- steps of a loop
def rch {S R : Type} (f : S → Option (S ⊕ R)) : Nat → S → S → Prop
  | 0, a, b => a = b
  | n + 1, a, b => ∃ c, f a = some (.inl c) ∧ rch f n c b
theorem rch.tr {S R : Type} {f : S → Option (S ⊕ R)} {m : Nat} {b c : S} : ∀ {n : Nat} {a : S}, rch f n a b → rch f m b c → rch f (n + m) a c
  | 0, a, h, h' => by
    have e : a = b := h
    subst e
    rw [Nat.zero_add]
    exact h'
  | n + 1, a, h, h' => by
    obtain ⟨d, h1, h2⟩ := h
    rw [show n + 1 + m = (n + m) + 1 by omega]
    exact ⟨d, h1, h2.tr h'⟩
theorem rch.one {S R : Type} {f : S → Option (S ⊕ R)} {a b : S} (h : f a = some (.inl b)) : rch f 1 a b := ⟨b, h, rfl⟩
theorem rch.it {S R : Type} {f : S → Option (S ⊕ R)} {m : Nat} {b : S} {r : R} : ∀ {n : Nat} {a : S}, rch f n a b → it f m b = some r → it f (n + m) a = some r
  | 0, a, h, h' => by
    have e : a = b := h
    subst e
    rw [Nat.zero_add]
    exact h'
  | n + 1, a, h, h' => by
    obtain ⟨d, h1, h2⟩ := h
    rw [show n + 1 + m = (n + m) + 1 by omega]
    exact it_l h1 (h2.it h')

/-! The text that begins builds, piece by piece. -/
theorem okT.app {a b : List Nat} (h : okT a) (h' : okT b) : okT (a ++ b) := fun x hx => by
  rcases List.mem_append.mp hx with q | q
  · exact h x q
  · exact h' x q
theorem okT.one {c : Nat} (h : 1 ≤ c ∧ c ≤ 127) : okT [c] := fun x hx => by
  rw [List.mem_singleton] at hx
  rw [hx]; exact h
theorem okT.dig {v : Nat} : okT (digs v) := fun x hx => by
  unfold digs at hx
  obtain ⟨j, -, e⟩ := List.mem_map.mp hx
  omega
def wE : List Nat := [101, 118, 101, 110, 116, 32]
def wP : List Nat := [112, 108, 97, 99, 101, 32]
def wC : List Nat := [99, 117, 115, 116, 111, 109, 101, 114, 32]
def wO : List Nat := [111, 119, 108, 32]
def wS : List Nat := [115, 104, 111, 112, 32]
def tsA (a1 a2 a3 a4 a5 : Nat) : List Nat := wS ++ digs a1 ++ [32] ++ digs a2 ++ [32] ++ digs a3 ++ [32] ++ digs a4 ++ [32] ++ digs a5 ++ [59]
def tnA (X w : List Nat) (p : Nat) : Nat → List Nat
  | 0 => X
  | k + 1 => ((tnA X w p k ++ w) ++ [p, 97 + k]) ++ [59]
def tcA (X : List Nat) (pu fa : Nat → Nat) : Nat → List Nat
  | 0 => X
  | k + 1 => ((((((tcA X pu fa k ++ wC) ++ [99, 97 + k]) ++ [32]) ++ digs (pu k)) ++ [32]) ++ digs (fa k)) ++ [59]
def toA (X : List Nat) (sp : Nat → Nat) : Nat → List Nat
  | 0 => X
  | k + 1 => ((toA X sp k ++ wO) ++ digs (sp k)) ++ [59]
theorem tcA_cong {X : List Nat} {pu fa pu' fa' : Nat → Nat} : ∀ k, (∀ i, i < k → pu' i = pu i ∧ fa' i = fa i) → tcA X pu' fa' k = tcA X pu fa k
  | 0, _ => rfl
  | k + 1, h => by
    unfold tcA
    rw [tcA_cong k (fun i hi => h i (by omega)), (h k (by omega)).1, (h k (by omega)).2]
theorem toA_cong {X : List Nat} {sp sp' : Nat → Nat} : ∀ k, (∀ i, i < k → sp' i = sp i) → toA X sp' k = toA X sp k
  | 0, _ => rfl
  | k + 1, h => by
    unfold toA
    rw [toA_cong k (fun i hi => h i (by omega)), h k (by omega)]
theorem tnA_t {X wd r : List Nat} {q : Nat} : ∀ j k, tnA X (wd ++ [32]) (96 + q) k ++ t_names wd q j k r = tnA X (wd ++ [32]) (96 + q) (k + j) ++ r
  | 0, k => rfl
  | j + 1, k => by
    rw [show k + (j + 1) = (k + 1) + j by omega, ← tnA_t j (k + 1)]
    have e1 : t_names wd q (j + 1) k r = wd ++ ([32] ++ ([96 + q, 96 + (k + 1)] ++ ([] ++ ([59] ++ ([] ++ t_names wd q j (k + 1) r))))) := rfl
    have e2 : tnA X (wd ++ [32]) (96 + q) (k + 1) = ((tnA X (wd ++ [32]) (96 + q) k ++ (wd ++ [32])) ++ [96 + q, 97 + k]) ++ [59] := rfl
    rw [e1, e2, show 97 + k = 96 + (k + 1) by omega]
    simp only [List.append_assoc, List.nil_append, List.cons_append]
theorem tcA_t {X r : List Nat} {pu fa : Nat → Nat} : ∀ j k, tcA X pu fa k ++ t_cus pu fa j k r = tcA X pu fa (k + j) ++ r
  | 0, k => rfl
  | j + 1, k => by
    rw [show k + (j + 1) = (k + 1) + j by omega, ← tcA_t j (k + 1)]
    have e1 : t_cus pu fa (j + 1) k r = [99, 117, 115, 116, 111, 109, 101, 114] ++ ([32] ++ ([99, 96 + (k + 1)] ++ ([32] ++ (digs (pu k) ++ ([32] ++ (digs (fa k) ++ ([] ++ ([59] ++ ([] ++ t_cus pu fa j (k + 1) r))))))))) := rfl
    have e2 : tcA X pu fa (k + 1) = ((((((tcA X pu fa k ++ [99, 117, 115, 116, 111, 109, 101, 114, 32]) ++ [99, 97 + k]) ++ [32]) ++ digs (pu k)) ++ [32]) ++ digs (fa k)) ++ [59] := rfl
    rw [e1, e2, show 97 + k = 96 + (k + 1) by omega]
    simp only [List.append_assoc, List.nil_append, List.cons_append]
theorem toA_t {X r : List Nat} {sp : Nat → Nat} : ∀ j k, toA X sp k ++ t_owls sp j k r = toA X sp (k + j) ++ r
  | 0, k => rfl
  | j + 1, k => by
    rw [show k + (j + 1) = (k + 1) + j by omega, ← toA_t j (k + 1)]
    have e1 : t_owls sp (j + 1) k r = [111, 119, 108] ++ ([32] ++ (digs (sp k) ++ ([] ++ ([59] ++ ([] ++ t_owls sp j (k + 1) r))))) := rfl
    have e2 : toA X sp (k + 1) = ((toA X sp k ++ [111, 119, 108, 32]) ++ digs (sp k)) ++ [59] := rfl
    rw [e1, e2]
    simp only [List.append_assoc, List.nil_append, List.cons_append]
/-- the whole text -/
def tZ (a1 a2 a3 a4 a5 E P C O : Nat) (pu fa sp : Nat → Nat) : List Nat := toA (tcA (tnA (tnA (tsA a1 a2 a3 a4 a5) wE 101 E) wP 112 P) pu fa C) sp O
theorem tZ_all {a1 a2 a3 a4 a5 E P C O : Nat} {pu fa sp : Nat → Nat} : tZ a1 a2 a3 a4 a5 E P C O pu fa sp = t_all a1 a2 a3 a4 a5 E P C O pu fa sp := by
  have e0 : ∀ r, tsA a1 a2 a3 a4 a5 ++ r = t_shop a1 a2 a3 a4 a5 r := fun r => by
    unfold tsA t_shop wS
    simp only [List.append_assoc, List.nil_append, List.cons_append]
  unfold t_all
  rw [← e0]
  have e1 := tnA_t (X := tsA a1 a2 a3 a4 a5) (wd := [101, 118, 101, 110, 116]) (r := t_names [112, 108, 97, 99, 101] 16 P 0 (t_cus pu fa C 0 (t_owls sp O 0 []))) (q := 5) E 0
  rw [Nat.zero_add] at e1
  have e2 := tnA_t (X := tnA (tsA a1 a2 a3 a4 a5) wE 101 E) (wd := [112, 108, 97, 99, 101]) (r := t_cus pu fa C 0 (t_owls sp O 0 [])) (q := 16) P 0
  rw [Nat.zero_add] at e2
  have e3 := tcA_t (X := tnA (tnA (tsA a1 a2 a3 a4 a5) wE 101 E) wP 112 P) (r := t_owls sp O 0 []) (pu := pu) (fa := fa) C 0
  rw [Nat.zero_add] at e3
  have e4 := toA_t (X := tcA (tnA (tnA (tsA a1 a2 a3 a4 a5) wE 101 E) wP 112 P) pu fa C) (r := []) (sp := sp) O 0
  rw [Nat.zero_add, List.append_nil] at e4
  exact ((((e1.trans e2).trans e3).trans e4)).symm
theorem tsA_len {a1 a2 a3 a4 a5 : Nat} : (tsA a1 a2 a3 a4 a5).length = 10 + dl a1 + dl a2 + dl a3 + dl a4 + dl a5 := by
  unfold tsA wS
  simp only [List.length_append, List.length_cons, List.length_nil, digs_len]
  omega
theorem tnA_len {X w : List Nat} {p : Nat} : ∀ k, (tnA X w p k).length = X.length + (w.length + 3) * k
  | 0 => rfl
  | k + 1 => by
    unfold tnA
    simp only [List.length_append, List.length_cons, List.length_nil, tnA_len k, Nat.mul_succ]
    omega
theorem dl_3 {v : Nat} (h : v < 1000) : dl v ≤ 3 := by
  unfold dl
  repeat' split
  all_goals omega
theorem dl_2 {v : Nat} (h : v < 100) : dl v ≤ 2 := by
  unfold dl
  repeat' split
  all_goals omega
theorem tcA_len {X : List Nat} {pu fa : Nat → Nat} : ∀ k, (∀ i, i < k → pu i < 1000 ∧ fa i < 100) → (tcA X pu fa k).length ≤ X.length + 19 * k
  | 0, _ => Nat.le_refl _
  | k + 1, h => by
    have ih := tcA_len (X := X) k (fun i hi => h i (by omega))
    have h1 := dl_3 (h k (by omega)).1
    have h2 := dl_2 (h k (by omega)).2
    unfold tcA wC
    simp only [List.length_append, List.length_cons, List.length_nil, digs_len]
    omega
theorem toA_len {X : List Nat} {sp : Nat → Nat} : ∀ k, (∀ i, i < k → sp i < 10) → (toA X sp k).length ≤ X.length + 6 * k
  | 0, _ => Nat.le_refl _
  | k + 1, h => by
    have ih := toA_len (X := X) k (fun i hi => h i (by omega))
    have h1 := dl_s (h k (by omega))
    unfold toA wO
    simp only [List.length_append, List.length_cons, List.length_nil, digs_len]
    omega
theorem tsA_ok {a1 a2 a3 a4 a5 : Nat} : okT (tsA a1 a2 a3 a4 a5) := by
  have h3 : okT [32] := okT.one (by omega)
  exact ((((((((((show okT wS by unfold wS okT; decide).app okT.dig).app h3).app okT.dig).app h3).app okT.dig).app h3).app okT.dig).app h3).app okT.dig).app (okT.one (by omega))
theorem okT.nm {p k : Nat} (hp : 1 ≤ p ∧ p ≤ 127) (hk : k < 26) : okT [p, 97 + k] := fun x hx => by
  rcases List.mem_cons.mp hx with q | q
  · rw [q]; exact hp
  · rw [List.mem_singleton.mp q]; omega
theorem tnA_ok {X w : List Nat} {p : Nat} (hX : okT X) (hw : okT w) (hp : 1 ≤ p ∧ p ≤ 127) : ∀ k, k ≤ 8 → okT (tnA X w p k)
  | 0, _ => hX
  | k + 1, h => (((tnA_ok hX hw hp k (by omega)).app hw).app (okT.nm hp (by omega))).app (okT.one (by omega))
theorem tcA_ok {X : List Nat} {pu fa : Nat → Nat} (hX : okT X) : ∀ k, k ≤ 8 → okT (tcA X pu fa k)
  | 0, _ => hX
  | k + 1, h => (((((((tcA_ok hX k (by omega)).app (show okT wC by unfold wC okT; decide)).app (okT.nm (by omega) (by omega))).app (okT.one (by omega))).app okT.dig).app (okT.one (by omega))).app okT.dig).app (okT.one (by omega))
theorem toA_ok {X : List Nat} {sp : Nat → Nat} (hX : okT X) : ∀ k, okT (toA X sp k)
  | 0 => hX
  | k + 1 => (((toA_ok hX k).app (show okT wO by unfold wO okT; decide)).app okT.dig).app (okT.one (by omega))
theorem tZ_ok {a1 a2 a3 a4 a5 E P C O : Nat} {pu fa sp : Nat → Nat} (hE : E ≤ 6) (hP : P ≤ 6) (hC : C ≤ 8) : okT (tZ a1 a2 a3 a4 a5 E P C O pu fa sp) :=
  toA_ok (tcA_ok (tnA_ok (tnA_ok tsA_ok (show okT wE by unfold wE okT; decide) (by omega) E (by omega)) (show okT wP by unfold wP okT; decide) (by omega) P (by omega)) C hC) O

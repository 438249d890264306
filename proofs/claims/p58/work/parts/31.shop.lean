/-! The shop: how the class's and the model's memory belong together, and what both answer. a: the model's row 'now' (or a copy of it). -/
def SHs (s a : Nat → Int32) (n w t dd : Nat) : Prop := n ≤ 24 ∧ w ≤ 24 ∧ t ≤ 60 ∧ dd ≤ 20000 ∧ s 1 = nI dd ∧ a 5 = nI dd ∧ s 2 = a 0 ∧ s 5 = nI n ∧ a 10 = nI n ∧ s 8 = nI w ∧ a 12 = nI w ∧ s 12 = nI t ∧ a 11 = nI t ∧ s 13 = a 13 ∧ s 14 = a 14
/-- a prophecy's row -/
def rowP (q a : Nat → Int32) (b E P C : Nat) : Prop :=
  (∃ c, c < C ∧ q 0 = nI c ∧ a (b + 0) = nI c) ∧ (∃ e, e < E ∧ q 2 = nI e ∧ a (b + 1) = nI e) ∧
  ((q 1 = 1 ∧ q 3 = -1 ∧ a (b + 2) = -1 ∧ a (b + 3) = 0) ∨ (q 1 = 0 ∧ (∃ l, l < P ∧ q 3 = nI l ∧ a (b + 2) = nI l) ∧ a (b + 3) = 0) ∨ (q 1 = 2 ∧ (∃ l, l < P ∧ q 3 = nI l ∧ a (b + 2) = nI l) ∧ a (b + 3) = 1)) ∧
  (∃ d, d ≤ 20000 ∧ q 4 = nI d ∧ a (b + 4) = nI d) ∧ (∃ d, d ≤ 20000 ∧ q 5 = nI d ∧ a (b + 5) = nI d) ∧ q 6 = a (b + 6) ∧ q 7 = a (b + 7) ∧ (a (b + 7) = 0 ∨ a (b + 7) = 1 ∨ a (b + 7) = 2 ∨ a (b + 7) = 3) ∧ (a (b + 7) ≠ 0 → q 8 = a (b + 8)) ∧ q 9 = a (b + 9)
def SHP (pr : Nat → Nat → Int32) (a : Nat → Int32) (E P C n : Nat) : Prop := ∀ p, p < n → rowP (pr p) a (80 + 10 * p) E P C
/-- an owl's row -/
def rowO (q a : Nat → Int32) (b C : Nat) : Prop :=
  (∃ d, d ≤ 60 ∧ q 0 = nI d ∧ a (b + 1) = nI d) ∧ q 1 = a (b + 2) ∧
  ((q 4 = 1 ∧ (∃ c, c < C ∧ q 2 = nI c ∧ a (b + 3) = nI c) ∧ ∃ d, d ≤ 60 ∧ q 3 = nI d ∧ a (b + 4) = nI d) ∨ (q 4 = 0 ∧ a (b + 3) = -1 ∧ a (b + 2) = 0))
def SHO (ow : Nat → Nat → Int32) (a : Nat → Int32) (C O : Nat) : Prop := (∀ o, o < O → rowO (ow o) a (52 + 5 * o) C) ∧ ∀ o, O ≤ o → o < 5 → ow o 0 = 0 ∧ ow o 1 = 0 ∧ ow o 4 = 0
def SHC (pu a : Nat → Int32) (C : Nat) : Prop := (∀ c, c < C → pu c = a (28 + 3 * c + 1)) ∧ ∀ c, C ≤ c → c < 8 → pu c = 0
def SHQ (qu a : Nat → Int32) (n w : Nat) : Prop := (∀ k, k < w → qu k = a (500 + k) ∧ ∃ v, v < n ∧ a (500 + k) = nI v) ∧ ∀ k k', k < w → k' < w → a (500 + k) = a (500 + k') → k = k'
def SHN (e p d a : Nat → Int32) (E t : Nat) : Prop := ∀ i, i < t → e i = a (320 + 3 * i + 0) ∧ p i = a (320 + 3 * i + 1) ∧ d i = a (320 + 3 * i + 2) ∧ (∃ v, v < E ∧ a (320 + 3 * i + 0) = nI v) ∧ ∃ v, v ≤ 20000 ∧ a (320 + 3 * i + 2) = nI v
def SH (μ : Mem) (j : Nat) (a : Nat → Int32) (E P C O n w t dd : Nat) : Prop :=
  SHs (μ 9 j) a n w t dd ∧ SHP (fun p => μ 5 (24 * j + p)) a E P C n ∧ SHO (fun o => μ 4 (5 * j + o)) a C O ∧ SHC (μ 27 j) a C ∧ SHQ (μ 30 j) a n w ∧ SHN (μ 31 j) (μ 32 j) (μ 33 j) a E t
-- names: five bits a letter, or to the base 27
def e5 (w : List Nat) : Nat := w.foldl (fun a l => 32 * a + l) 0
def e27 (w : List Nat) : Nat := w.foldl (fun a l => 27 * a + l) 0
def okw (w : List Nat) : Prop := w ≠ [] ∧ w.length ≤ 6 ∧ ∀ l ∈ w, 1 ≤ l ∧ l ≤ 26
def NM (x y : Int32) : Prop := ∃ w, okw w ∧ x = nI (e5 w) ∧ y = nI (e27 w)
/-- the setup -/
def ST (μ : Mem) (s : Nat) (a : Nat → Int32) (E P C O : Nat) : Prop :=
  s < 2 ∧ E ≤ 6 ∧ P ≤ 6 ∧ C ≤ 8 ∧ O ≤ 5 ∧ (μ 3 (3 * s) 1 = nI E ∧ a 6 = nI E) ∧ (μ 3 (3 * s + 1) 1 = nI P ∧ a 7 = nI P) ∧ (μ 3 (3 * s + 2) 1 = nI C ∧ a 8 = nI C) ∧ (μ 7 s 11 = nI O ∧ a 9 = nI O) ∧
  (∃ r, r ≤ 9 ∧ μ 7 s 1 = nI r ∧ a 1 = nI r) ∧ μ 7 s 2 = a 2 ∧ μ 7 s 3 = a 3 ∧ μ 7 s 4 = a 4 ∧
  (∀ e, e < E → NM (μ 23 (3 * s) e) (a (16 + e))) ∧ (∀ p, p < P → NM (μ 23 (3 * s + 1) p) (a (22 + p))) ∧
  (∀ c, c < C → NM (μ 23 (3 * s + 2) c) (a (28 + 3 * c + 0)) ∧ ∃ d, 1 ≤ d ∧ d ≤ 30 ∧ μ 25 s c = nI d ∧ a (28 + 3 * c + 2) = nI d) ∧
  (∀ o, o < O → ∃ v, 1 ≤ v ∧ v ≤ 9 ∧ μ 26 s o = nI v ∧ a (52 + 5 * o + 0) = nI v) ∧ a 15 = μ 7 s 0 + sm (μ 24 s) C
/-- places of the row that change while days pass and prophecies are sold -/
def dynI (k : Nat) : Prop := k = 0 ∨ k = 5 ∨ (10 ≤ k ∧ k ≤ 14) ∨ (28 ≤ k ∧ k < 52 ∧ k % 3 = 2) ∨ (52 ≤ k ∧ k < 77 ∧ k % 5 ≠ 2) ∨ 77 ≤ k
theorem ST.cong {μ : Mem} {s E P C O : Nat} {a a' : Nat → Int32} (h : ST μ s a E P C O) (e : ∀ k, ¬ dynI k → a' k = a k) : ST μ s a' E P C O := by
  obtain ⟨h1, h2, h3, h4, h5, h6, h7, h8, h9, h10, h11, h12, h13, h14, h15, h16, h17, h18⟩ := h
  have q : ∀ k, k < 16 → k ≠ 0 → k ≠ 5 → (k < 10 ∨ k = 15) → a' k = a k := fun k k1 k2 k3 k4 => e k (by unfold dynI; omega)
  refine ⟨h1, h2, h3, h4, h5, ?_, ?_, ?_, ?_, ?_, ?_, ?_, ?_, ?_, ?_, ?_, ?_, ?_⟩
  · rw [q 6 (by omega) (by omega) (by omega) (by omega)]; exact h6
  · rw [q 7 (by omega) (by omega) (by omega) (by omega)]; exact h7
  · rw [q 8 (by omega) (by omega) (by omega) (by omega)]; exact h8
  · rw [q 9 (by omega) (by omega) (by omega) (by omega)]; exact h9
  · rw [q 1 (by omega) (by omega) (by omega) (by omega)]; exact h10
  · rw [q 2 (by omega) (by omega) (by omega) (by omega)]; exact h11
  · rw [q 3 (by omega) (by omega) (by omega) (by omega)]; exact h12
  · rw [q 4 (by omega) (by omega) (by omega) (by omega)]; exact h13
  · intro i hi; rw [e (16 + i) (by unfold dynI; omega)]; exact h14 i hi
  · intro i hi; rw [e (22 + i) (by unfold dynI; omega)]; exact h15 i hi
  · intro i hi; rw [e (28 + 3 * i + 0) (by unfold dynI; omega), e (28 + 3 * i + 2) (by unfold dynI; omega)]; exact h16 i hi
  · intro i hi; rw [e (52 + 5 * i + 0) (by unfold dynI; omega)]; exact h17 i hi
  · rw [q 15 (by omega) (by omega) (by omega) (by omega)]; exact h18
theorem ST.ua {μ : Mem} {s E P C O k : Nat} {a : Nat → Int32} {x : Int32} (h : ST μ s a E P C O) (hk : dynI k) : ST μ s (ua a k x) E P C O := h.cong (fun i hi => ua_N (fun z => hi (z ▸ hk)))
/-- the setup's own places -/
def setK (K : Nat) : Prop := K = 3 ∨ K = 7 ∨ K = 23 ∨ K = 24 ∨ K = 25 ∨ K = 26
theorem ST.mem {μ μ' : Mem} {s E P C O : Nat} {a : Nat → Int32} (h : ST μ s a E P C O) (e : ∀ K, setK K → μ' K = μ K) : ST μ' s a E P C O := by
  unfold ST at h ⊢
  rw [e 3 (by unfold setK; omega), e 7 (by unfold setK; omega), e 23 (by unfold setK; omega), e 24 (by unfold setK; omega), e 25 (by unfold setK; omega), e 26 (by unfold setK; omega)]
  exact h
-- the parts, when the row is written elsewhere
theorem rowP.cong {q q' a a' : Nat → Int32} {b E P C : Nat} (h : rowP q a b E P C) (e : ∀ f, f < 10 → q' f = q f) (e' : ∀ f, f < 10 → a' (b + f) = a (b + f)) : rowP q' a' b E P C := by
  unfold rowP at h ⊢
  rw [e 0 (by omega), e 1 (by omega), e 2 (by omega), e 3 (by omega), e 4 (by omega), e 5 (by omega), e 6 (by omega), e 7 (by omega), e 8 (by omega), e 9 (by omega),
    e' 0 (by omega), e' 1 (by omega), e' 2 (by omega), e' 3 (by omega), e' 4 (by omega), e' 5 (by omega), e' 6 (by omega), e' 7 (by omega), e' 8 (by omega), e' 9 (by omega)]
  exact h
theorem rowO.cong {q q' a a' : Nat → Int32} {b C : Nat} (h : rowO q a b C) (e : ∀ f, f < 5 → q' f = q f) (e' : ∀ f, f < 5 → a' (b + f) = a (b + f)) : rowO q' a' b C := by
  unfold rowO at h ⊢
  rw [e 0 (by omega), e 1 (by omega), e 2 (by omega), e 3 (by omega), e 4 (by omega), e' 1 (by omega), e' 2 (by omega), e' 3 (by omega), e' 4 (by omega)]
  exact h
theorem SHP.ua {pr : Nat → Nat → Int32} {a : Nat → Int32} {E P C n k : Nat} {x : Int32} (h : SHP pr a E P C n) (hk : k < 80 ∨ 80 + 10 * n ≤ k) : SHP pr (ua a k x) E P C n := fun p hp => (h p hp).cong (fun _ _ => rfl) (fun f hf => ua_N (by omega))
theorem SHO.ua {ow : Nat → Nat → Int32} {a : Nat → Int32} {C O k : Nat} {x : Int32} (h : SHO ow a C O) (hO : O ≤ 5) (hk : k < 52 ∨ 77 ≤ k) : SHO ow (ua a k x) C O := ⟨fun o ho => (h.1 o ho).cong (fun _ _ => rfl) (fun f hf => ua_N (by omega)), h.2⟩
theorem SHC.ua {pu a : Nat → Int32} {C k : Nat} {x : Int32} (h : SHC pu a C) (hC : C ≤ 8) (hk : k < 28 ∨ 52 ≤ k) : SHC pu (ua a k x) C := ⟨fun c hc => by rw [ua_N (by omega)]; exact h.1 c hc, h.2⟩
theorem SHQ.ua {qu a : Nat → Int32} {n w k : Nat} {x : Int32} (h : SHQ qu a n w) (hk : k < 500 ∨ 500 + w ≤ k) : SHQ qu (ua a k x) n w := ⟨fun i hi => by rw [ua_N (by omega)]; exact h.1 i hi, fun i i' hi hi' => by rw [ua_N (by omega), ua_N (by omega)]; exact h.2 i i' hi hi'⟩
theorem SHN.ua {e p d a : Nat → Int32} {E t k : Nat} {x : Int32} (h : SHN e p d a E t) (hk : k < 320 ∨ 320 + 3 * t ≤ k) : SHN e p d (ua a k x) E t := fun i hi => by rw [ua_N (by omega), ua_N (by omega), ua_N (by omega)]; exact h i hi
theorem SHs.ua {s a : Nat → Int32} {n w t dd k : Nat} {x : Int32} (h : SHs s a n w t dd) (hk : k ≠ 0 ∧ k ≠ 5 ∧ (k < 10 ∨ 14 < k)) : SHs s (ua a k x) n w t dd := by
  unfold SHs at h ⊢
  rw [ua_N (by omega), ua_N (by omega), ua_N (by omega), ua_N (by omega), ua_N (by omega), ua_N (by omega), ua_N (by omega)]
  exact h
theorem SH.cong {μ μ' : Mem} {j E P C O n w t dd : Nat} {a a' : Nat → Int32} (h : SH μ j a E P C O n w t dd) (hm : μ' 9 j = μ 9 j ∧ (∀ p, p < 24 → μ' 5 (24 * j + p) = μ 5 (24 * j + p)) ∧ (∀ o, o < 5 → μ' 4 (5 * j + o) = μ 4 (5 * j + o)) ∧ μ' 27 j = μ 27 j ∧ μ' 30 j = μ 30 j ∧ μ' 31 j = μ 31 j ∧ μ' 32 j = μ 32 j ∧ μ' 33 j = μ 33 j) (ha : ∀ k, k < 524 → a' k = a k) (hC : C ≤ 8) (hO : O ≤ 5) : SH μ' j a' E P C O n w t dd := by
  obtain ⟨h1, h2, h3, h4, h5, h6⟩ := h
  obtain ⟨m1, m2, m3, m4, m5, m6, m7, m8⟩ := hm
  have hn : n ≤ 24 := h1.1
  have hw : w ≤ 24 := h1.2.1
  have ht : t ≤ 60 := h1.2.2.1
  refine ⟨?_, fun p hp => (h2 p hp).cong (fun f _ => congrFun (m2 p (by omega)) f) (fun f hf => ha _ (by omega)), ⟨fun o ho => (h3.1 o ho).cong (fun f _ => congrFun (m3 o (by omega)) f) (fun f hf => ha _ (by omega)), fun o h7 h8 => by show μ' 4 (5 * j + o) 0 = 0 ∧ μ' 4 (5 * j + o) 1 = 0 ∧ μ' 4 (5 * j + o) 4 = 0; rw [m3 o h8]; exact h3.2 o h7 h8⟩, ?_, ?_, ?_⟩
  · rw [m1]; unfold SHs at h1 ⊢; rw [ha 5 (by omega), ha 0 (by omega), ha 10 (by omega), ha 12 (by omega), ha 11 (by omega), ha 13 (by omega), ha 14 (by omega)]; exact h1
  · rw [m4]; exact ⟨fun c hc => by rw [ha _ (by omega)]; exact h4.1 c hc, h4.2⟩
  · rw [m5]; exact ⟨fun k hk => by rw [ha _ (by omega)]; exact h5.1 k hk, fun k k' hk hk' => by rw [ha _ (by omega), ha _ (by omega)]; exact h5.2 k k' hk hk'⟩
  · rw [m6, m7, m8]; exact fun i hi => by rw [ha _ (by omega), ha _ (by omega), ha _ (by omega)]; exact h6 i hi
-- what both answer, read off the row
def rfd (a : Nat → Int32) (b : Nat) : Int32 := a (b + 6) * (if a (b + 2) = -1 then a 4 else a 3) / 100
def ansr (a : Nat → Int32) (b : Nat) : Int32 := if a (b + 7) = 0 then 2 else if a (b + 7) = 1 then 3 else if a (b + 7) = 3 then 4 else if a 5 - a (b + 8) ≤ a 2 then (if rfd a b ≤ a 0 then 1 else 6) else 5
def idl (a : Nat → Int32) (O : Nat) : Int32 := fdI (fun o => decide (a (52 + 5 * o + 1) = 0)) 0 O
def inq (a : Nat → Int32) (x : Int32) (w : Nat) : Int32 := fdI (fun k => decide (a (500 + k) = x)) 0 w
def hap (a : Nat → Int32) (e p : Int32) (t : Nat) : Nat := ct (fun i => decide (a (320 + 3 * i + 0) = e) && decide (a (320 + 3 * i + 1) = p)) t
def hapd (a : Nat → Int32) (e p d : Int32) (t : Nat) : Nat := ct (fun i => decide (a (320 + 3 * i + 0) = e) && (decide (a (320 + 3 * i + 1) = p) && decide (a (320 + 3 * i + 2) = d))) t
-- the class's reads
theorem C_has {μ : Mem} {j n : Nat} (h : μ 3 j 1 = nI n) (x : Int32) : f_Names_has j x μ = some (ixB x n) := by
  unfold f_Names_has ixB
  rw [h]
  by_cases h1 : x < 0
  · rw [if_pos h1, if_pos (Or.inl h1)]
  · rw [if_neg h1]
    by_cases h2 : nI n ≤ x
    · rw [if_pos h2, if_pos (Or.inr h2)]
    · rw [if_neg h2, if_neg (by rintro (z | z); exact h1 z; exact h2 z)]
theorem C_hasSold {μ : Mem} {j n : Nat} (h : μ 9 j 5 = nI n) (hn : n ≤ 24) (x : Int32) : f_Shop_hasSold j x μ = some (ixB x n) := by
  unfold f_Shop_hasSold
  rw [h]
  rcases ixB_c x (n := n) (by omega) with ⟨e, h1, -⟩ | ⟨e, p, hp, rfl⟩
  · rw [e]
    by_cases h2 : x < 0
    · rw [if_pos h2]
    · rw [if_neg h2, if_pos (h1.resolve_left h2)]
  · rw [e, if_neg (nI_pos (by omega)), if_neg (nI_ge hp (by omega)), if_neg (gl_24 (by omega))]
theorem C_prophecyWith {μ : Mem} {j n p : Nat} (h : μ 9 j 5 = nI n) (hn : n ≤ 24) (hp : p < n) : f_Shop_prophecyWith j (nI p) μ = some (24 * j + p) := by
  unfold f_Shop_prophecyWith
  rw [C_hasSold h hn, ixB_in (by omega) hp, bind_s, if_neg (by decide), chk_of (inb_of (by omega) (by omega)), nI_clamp (by omega)]
theorem C_coinsOf {μ : Mem} {j c : Nat} (hc : c < 8) : f_Shop_coinsOf j (nI c) μ = some (μ 27 j c) := by
  unfold f_Shop_coinsOf
  rw [if_neg (nI_pos (by omega)), if_neg (gl_8 hc), chk_of (inb_of hc (by omega)), nI_clamp (by omega)]
theorem C_owlWith {μ : Mem} {j o : Nat} (ho : o < 5) : f_Shop_owlWith j (nI o) μ = some (5 * j + o) := by
  unfold f_Shop_owlWith
  rw [if_neg (nI_pos (by omega)), if_neg (gl_5 ho), chk_of (inb_of ho (by omega)), nI_clamp (by omega)]
theorem C_addCoins {μ : Mem} {j c : Nat} {x : Int32} (hc : c < 8) : f_Shop_addCoins j (nI c) x μ = some (st3 μ 27 j c (μ 27 j c + x)) := by
  unfold f_Shop_addCoins
  rw [if_neg (nI_pos (by omega)), if_neg (gl_8 hc), chk_of (inb_of hc (by omega)), chk_of (inb_of hc (by omega)), nI_clamp (by omega)]
  rfl
section Reads
variable {μ ν : Mem} {j s E P C O n w t dd : Nat} {a : Nat → Int32}
theorem hS_of (h : μ 9 j 0 = nI s) (hs : s < 2) : (μ 9 j 0).toNatClampNeg = s := by rw [h, nI_clamp (by omega)]
theorem C_refundFor {q b : Nat} (h0 : μ 9 j 0 = nI s) (hT : ST μ s a E P C O) (hp : rowP (μ 5 q) a b E P C) : f_Shop_refundFor j q μ = some (rfd a b) := by
  have hs := hT.1
  obtain ⟨-, -, hP, -, -, -, -, -, -, -, -, t3, t4, -⟩ := hT
  obtain ⟨-, -, hk, -, -, h6, -⟩ := hp
  unfold f_Shop_refundFor rfd
  simp only [hS_of h0 hs, decide_eq_true hs, chk_t, t3, t4, h6]
  rcases hk with ⟨k1, -, k3, -⟩ | ⟨k1, ⟨l, hl, -, k3⟩, -⟩ | ⟨k1, ⟨l, hl, -, k3⟩, -⟩
  · rw [k1, k3]; rfl
  · rw [k1, k3, if_neg (by decide), if_neg (ne_m1 (by omega))]; rfl
  · rw [k1, k3, if_neg (by decide), if_neg (ne_m1 (by omega))]; rfl
theorem C_answerTo {q b : Nat} (h0 : μ 9 j 0 = nI s) (hT : ST μ s a E P C O) (hp : rowP (μ 5 q) a b E P C) (hs9 : SHs (μ 9 j) a n w t dd) : f_Shop_answerTo j q μ = some (ansr a b) := by
  have hs := hT.1
  have hr := C_refundFor (q := q) (b := b) h0 hT hp
  obtain ⟨-, -, -, -, -, -, -, -, -, -, t2, -⟩ := hT
  obtain ⟨-, -, -, -, -, -, h7, -, h8, -⟩ := hp
  obtain ⟨-, -, -, -, s1, a5, s2, -⟩ := hs9
  unfold f_Shop_answerTo ansr
  simp only [hS_of h0 hs, decide_eq_true hs, chk_t, t2, h7, hr, bind_s, s1, ← a5, s2]
  by_cases e : a (b + 7) = 0
  · rw [if_pos e, if_pos e]
  · rw [if_neg e, if_neg e, h8 e]
    split
    · rfl
    · split
      · rfl
      · split
        · split <;> rfl
        · rfl
theorem C_firstIdleOwl (h0 : μ 9 j 0 = nI s) (hT : ST μ s a E P C O) (hO9 : SHO (fun o => μ 4 (5 * j + o)) a C O) (hj : j < 12) : f_Shop_firstIdleOwl j μ = some (idl a O) := by
  have hs := hT.1
  obtain ⟨-, -, -, -, hO, -, -, -, t9, -⟩ := hT
  unfold f_Shop_firstIdleOwl idl
  refine it_fd _ O (by omega) (fun i hi => ?_) ?_
  · unfold s_Shop_firstIdleOwl_2
    obtain ⟨⟨d, hd, e0, e1⟩, -⟩ := hO9.1 i hi
    replace e0 : μ 4 (5 * j + i) 0 = nI d := e0
    simp only [hS_of h0 hs, decide_eq_true hs, chk_t, t9.1]
    rw [if_neg (nI_ge hi (by omega)), C_owlWith (by omega), bind_s, chk_of (decide_eq_true (by omega)), e0, e1, nI_1]
    by_cases h : nI d = 0
    · rw [if_pos h, if_pos (decide_eq_true h)]
    · rw [if_neg h, if_neg (by rw [decide_eq_true_eq]; exact h)]
  · unfold s_Shop_firstIdleOwl_2
    simp only [hS_of h0 hs, decide_eq_true hs, chk_t, t9.1]
    rw [if_pos (nI_le (Nat.le_refl _) (by omega))]
theorem C_requestsBefore {x : Int32} (h8 : μ 9 j 8 = nI w) (hw : w ≤ 24) (hQ : SHQ (μ 30 j) a n w) : f_Shop_requestsBefore j x μ = some (inq a x w) := by
  unfold f_Shop_requestsBefore inq
  refine it_fd _ w (by omega) (fun i hi => ?_) ?_
  · unfold s_Shop_requestsBefore_2
    rw [h8, if_neg (nI_ge hi (by omega)), chk_of (inb_of (by omega) (by omega)), nI_clamp (by omega), (hQ.1 i hi).1, nI_1]
    by_cases h : a (500 + i) = x
    · rw [if_pos h, if_pos (decide_eq_true h)]
    · rw [if_neg h, if_neg (by rw [decide_eq_true_eq]; exact h)]
  · unfold s_Shop_requestsBefore_2
    rw [h8, if_pos (nI_le (Nat.le_refl _) (by omega))]
theorem C_countHappenings {e p : Int32} (h12 : μ 9 j 12 = nI t) (ht : t ≤ 60) (hN : SHN (μ 31 j) (μ 32 j) (μ 33 j) a E t) : f_Shop_countHappenings j e p μ = some (nI (hap a e p t)) := by
  unfold f_Shop_countHappenings hap
  rw [it_ct (fun i => decide (a (320 + 3 * i + 0) = e) && decide (a (320 + 3 * i + 1) = p)) t (by omega) (fun i hi x => ?_) (fun x => ?_)]
  · rfl
  · obtain ⟨n1, n2, -⟩ := hN i hi
    show s_Shop_countHappenings_5 j e p x (nI i) μ = _
    unfold s_Shop_countHappenings_5
    rw [h12, if_neg (nI_ge hi (by omega)), chk_of (inb_of (by omega) (by omega)), chk_of (inb_of (by omega) (by omega)), nI_clamp (by omega), n1, n2, nI_1]
    by_cases h1 : a (320 + 3 * i + 0) = e <;> by_cases h2 : a (320 + 3 * i + 1) = p <;> simp [-Nat.add_zero, h1, h2]
  · show s_Shop_countHappenings_5 j e p x (nI t) μ = _
    unfold s_Shop_countHappenings_5
    rw [h12, if_pos (nI_le (Nat.le_refl _) (by omega))]
theorem C_isNoted {e p d : Int32} (h12 : μ 9 j 12 = nI t) (ht : t ≤ 60) (hN : SHN (μ 31 j) (μ 32 j) (μ 33 j) a E t) : f_Shop_isNoted j e p d μ = some (if hapd a e p d t = 0 then 0 else 1) := by
  unfold f_Shop_isNoted hapd
  refine it_any _ t (by omega) (fun i hi => ?_) ?_
  · obtain ⟨n1, n2, n3, -⟩ := hN i hi
    show s_Shop_isNoted_3 j e p d (nI i) μ = _
    unfold s_Shop_isNoted_3
    rw [h12, if_neg (nI_ge hi (by omega)), chk_of (inb_of (by omega) (by omega)), chk_of (inb_of (by omega) (by omega)), chk_of (inb_of (by omega) (by omega)), nI_clamp (by omega), n1, n2, n3, nI_1]
    by_cases h1 : a (320 + 3 * i + 0) = e <;> by_cases h2 : a (320 + 3 * i + 1) = p <;> by_cases h3 : a (320 + 3 * i + 2) = d <;> simp [-Nat.add_zero, h1, h2, h3]
  · show s_Shop_isNoted_3 j e p d (nI t) μ = _
    unfold s_Shop_isNoted_3
    rw [h12, if_pos (nI_le (Nat.le_refl _) (by omega))]
end Reads

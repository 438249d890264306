/-! The two systems' memory by kinds: off: where an object lies; cel: its cell; fld: what a place holds, read off a number -/
abbrev Mem : Type := Nat → Nat → Nat → Int32
def sOff (k : Nat) : Nat := 87 + 37 * k + (if k < 2 then 0 else if k < 10 then 2 else 4)
theorem sOff_b (k : Nat) : sOff k ≤ 91 + 37 * k := by
  unfold sOff
  split
  · omega
  · split <;> omega
def off : Nat → Nat → Nat
  | 2, _ => 161
  | 3, j => 68 + 10 * (j / 3) + 2 * (j % 3)
  | 4, j => sOff (j / 5) + 32 + j % 5
  | 5, j => sOff (j / 24) + 8 + j % 24
  | 6, _ => 4
  | 7, j => 67 + 10 * j
  | 8, _ => 3
  | 9, j => sOff j
  | 10, j => 7 + j
  | 11, _ => 1
  | 12, _ => 0
  | 20, _ => 2
  | 21, _ => 5
  | 22, _ => 6
  | 23, j => 69 + 10 * (j / 3) + 2 * (j % 3)
  | 24, j => 74 + 10 * j
  | 25, j => 75 + 10 * j
  | 26, j => 76 + 10 * j
  | 27, j => sOff j + 1
  | 28, j => sOff j + 2
  | 29, j => sOff j + 3
  | 30, j => sOff j + 4
  | 31, j => sOff j + 5
  | 32, j => sOff j + 6
  | 33, j => sOff j + 7
  | 34, _ => 162
  | 35, _ => 459
  | 36, _ => 460
  | 60, j => j
  | 61, j => j + 1
  | 62, j => j + 2
  | 63, j => j + 3
  | 64, j => j + 4
  | 65, j => j + 5
  | 66, j => j + 6
  | 67, j => j + 7
  | 68, j => j + 8
  | 69, j => j + 9
  | 70, j => j + 10
  | 71, j => j + 11
  | 72, j => j + 12
  | 73, j => j + 13
  | 74, j => j + 14
  | 75, j => j + 15
  | 76, j => j + 16
  | 77, j => j + 17
  | 78, j => j + 18
  | 79, j => j + 19
  | 80, j => j + 20
  | _, _ => 0
def isA : Nat → Bool
  | 2 => false
  | 3 => false
  | 4 => false
  | 5 => false
  | 6 => false
  | 7 => false
  | 8 => false
  | 9 => false
  | 10 => false
  | 11 => false
  | 12 => false
  | 20 => true
  | 21 => true
  | 22 => true
  | 23 => true
  | 24 => true
  | 25 => true
  | 26 => true
  | 27 => true
  | 28 => true
  | 29 => true
  | 30 => true
  | 31 => true
  | 32 => true
  | 33 => true
  | 34 => true
  | 35 => true
  | 36 => true
  | 60 => false
  | 61 => true
  | 62 => true
  | 63 => true
  | 64 => true
  | 65 => true
  | 66 => true
  | 67 => true
  | 68 => true
  | 69 => true
  | 70 => true
  | 71 => true
  | 72 => true
  | 73 => true
  | 74 => true
  | 75 => true
  | 76 => true
  | 77 => true
  | 78 => true
  | 79 => true
  | 80 => true
  | _ => false
def ixK : Nat → Nat
  | 2 => 2
  | 3 => 3
  | 4 => 4
  | 5 => 5
  | 6 => 6
  | 7 => 7
  | 8 => 8
  | 9 => 9
  | 10 => 10
  | 11 => 11
  | 12 => 12
  | 20 => 0
  | 21 => 6
  | 22 => 0
  | 23 => 0
  | 24 => 0
  | 25 => 0
  | 26 => 0
  | 27 => 0
  | 28 => 4
  | 29 => 5
  | 30 => 0
  | 31 => 0
  | 32 => 0
  | 33 => 0
  | 34 => 7
  | 35 => 7
  | 36 => 1
  | 60 => 13
  | 61 => 0
  | 62 => 0
  | 63 => 0
  | 64 => 0
  | 65 => 0
  | 66 => 0
  | 67 => 0
  | 68 => 0
  | 69 => 0
  | 70 => 0
  | 71 => 0
  | 72 => 0
  | 73 => 0
  | 74 => 0
  | 75 => 0
  | 76 => 0
  | 77 => 0
  | 78 => 1
  | 79 => 0
  | 80 => 0
  | _ => 0
def lenK : Nat → Nat
  | 20 => 800
  | 21 => 60
  | 22 => 2
  | 23 => 8
  | 24 => 8
  | 25 => 8
  | 26 => 5
  | 27 => 8
  | 28 => 24
  | 29 => 5
  | 30 => 24
  | 31 => 60
  | 32 => 60
  | 33 => 60
  | 34 => 8
  | 35 => 2
  | 36 => 2
  | 61 => 8
  | 62 => 8
  | 63 => 5
  | 64 => 5
  | 65 => 5
  | 66 => 5
  | 67 => 5
  | 68 => 24
  | 69 => 24
  | 70 => 24
  | 71 => 24
  | 72 => 24
  | 73 => 24
  | 74 => 24
  | 75 => 24
  | 76 => 24
  | 77 => 24
  | 78 => 24
  | 79 => 60
  | 80 => 60
  | _ => 0
def vc : Nat → Nat → Prop
  | 2, j => j = 0
  | 3, j => j < 6
  | 4, j => j < 60
  | 5, j => j < 288
  | 6, j => j = 0
  | 7, j => j < 2
  | 8, j => j = 0
  | 9, j => j < 12
  | 10, j => j < 60
  | 11, j => j = 0
  | 12, j => j = 0
  | 20, j => j = 0
  | 21, j => j = 0
  | 22, j => j = 0
  | 23, j => j < 6
  | 24, j => j < 2
  | 25, j => j < 2
  | 26, j => j < 2
  | 27, j => j < 12
  | 28, j => j < 12
  | 29, j => j < 12
  | 30, j => j < 12
  | 31, j => j < 12
  | 32, j => j < 12
  | 33, j => j < 12
  | 34, j => j = 0
  | 35, j => j = 0
  | 36, j => j = 0
  | _, _ => False
/-- an Own that begins at b -/
def vo (b : Nat) : Nat → Nat → Prop := fun K j => 60 ≤ K ∧ K ≤ 80 ∧ j = b
def fld : Nat → Nat → Nat → Int32 → RV
  | 2, _, 0, _ => .inr (0, off 34 0)
  | 3, j, 0, _ => .inr (0, off 23 j)
  | 6, _, 0, _ => .inr (0, off 11 0)
  | 6, _, 6, _ => .inr (0, off 21 0)
  | 6, _, 9, _ => .inr (0, off 22 0)
  | 7, j, 5, _ => .inr (0, off 3 (3 * j))
  | 7, j, 6, _ => .inr (0, off 3 (3 * j + 1))
  | 7, j, 7, _ => .inr (0, off 3 (3 * j + 2))
  | 7, j, 8, _ => .inr (0, off 24 j)
  | 7, j, 9, _ => .inr (0, off 25 j)
  | 7, j, 10, _ => .inr (0, off 26 j)
  | 8, _, 0, _ => .inr (0, off 11 0)
  | 9, _, 0, x => .inr (0, off 7 x.toNatClampNeg)
  | 9, j, 3, _ => .inr (0, off 27 j)
  | 9, j, 4, _ => .inr (0, off 28 j)
  | 9, j, 6, _ => .inr (0, off 29 j)
  | 9, j, 7, _ => .inr (0, off 30 j)
  | 9, j, 9, _ => .inr (0, off 31 j)
  | 9, j, 10, _ => .inr (0, off 32 j)
  | 9, j, 11, _ => .inr (0, off 33 j)
  | 11, _, 0, _ => .inr (0, off 20 0)
  | 12, _, 0, _ => .inr (0, off 11 0)
  | 12, _, 1, _ => .inr (0, off 8 0)
  | 12, _, 2, _ => .inr (0, off 6 0)
  | 12, _, 3, x => .inr (0, off 7 x.toNatClampNeg)
  | 12, _, 4, x => .inr (0, off 7 x.toNatClampNeg)
  | 12, _, 5, _ => .inr (0, off 9 0)
  | 12, _, 6, _ => .inr (0, off 9 1)
  | 12, _, 7, _ => .inr (0, off 2 0)
  | 12, _, 8, _ => .inr (0, off 35 0)
  | 12, _, 9, _ => .inr (0, off 36 0)
  | 60, j, 15, _ => .inr (0, off 61 j)
  | 60, j, 16, _ => .inr (0, off 62 j)
  | 60, j, 17, _ => .inr (0, off 63 j)
  | 60, j, 18, _ => .inr (0, off 64 j)
  | 60, j, 19, _ => .inr (0, off 65 j)
  | 60, j, 20, _ => .inr (0, off 66 j)
  | 60, j, 21, _ => .inr (0, off 67 j)
  | 60, j, 22, _ => .inr (0, off 68 j)
  | 60, j, 23, _ => .inr (0, off 69 j)
  | 60, j, 24, _ => .inr (0, off 70 j)
  | 60, j, 25, _ => .inr (0, off 71 j)
  | 60, j, 26, _ => .inr (0, off 72 j)
  | 60, j, 27, _ => .inr (0, off 73 j)
  | 60, j, 28, _ => .inr (0, off 74 j)
  | 60, j, 29, _ => .inr (0, off 75 j)
  | 60, j, 30, _ => .inr (0, off 76 j)
  | 60, j, 31, _ => .inr (0, off 77 j)
  | 60, j, 32, _ => .inr (0, off 78 j)
  | 60, j, 33, _ => .inr (0, off 79 j)
  | 60, j, 34, _ => .inr (0, off 80 j)
  | 12, _, 12, x => if x < 0 then .inr (1, 0) else .inr (0, x.toNatClampNeg)
  | 21, _, f, _ => .inr (0, off 10 f)
  | 28, j, f, _ => .inr (0, off 5 (24 * j + f))
  | 29, j, f, _ => .inr (0, off 4 (5 * j + f))
  | 34, _, _, x => .inr (0, off 9 x.toNatClampNeg)
  | 35, _, f, _ => .inr (0, off 9 (10 + f))
  | _, _, _, x => .inl (.int x)

def cel (μ : Mem) (K j : Nat) : RC := (isA K, ixK K, lenK K, fun f => fld K j f (μ K j f))
def st3 (μ : Mem) (K j f : Nat) (x : Int32) : Mem := fun K' j' f' => if K' = K ∧ j' = j ∧ f' = f then x else μ K' j' f'
/-- a stretch of an array is copied -/
def cp3 (μ : Mem) (K1 j1 K2 j2 sp dp n : Nat) : Mem := fun K j f => if K = K2 ∧ j = j2 then va_cpy (μ K1 j1) (μ K2 j2) sp dp n f else μ K j f
/-- the memory G holds the numbers μ at the places of V; F elsewhere -/
def LM (V : Nat → Nat → Prop) (lo hi : Nat) (μ : Mem) (F G : RG) : Prop := (∀ K j, V K j → G (off K j) = some (cel μ K j)) ∧ ∀ o, (o < lo ∨ hi ≤ o) → G o = F o
def OKV (V : Nat → Nat → Prop) (lo hi : Nat) : Prop := (∀ K j K' j', V K j → V K' j' → off K j = off K' j' → K = K' ∧ j = j') ∧ ∀ K j, V K j → lo ≤ off K j ∧ off K j < hi
theorem LM.put {V : Nat → Nat → Prop} {lo hi : Nat} {μ : Mem} {F G : RG} (h : LM V lo hi μ F G) (hO : OKV V lo hi) {K j f : Nat} {x : Int32} (hv : V K j) : LM V lo hi (st3 μ K j f x) F (wrG G (off K j) (isA K, ixK K, lenK K, updF (fun f => fld K j f (μ K j f)) f (fld K j f x))) := by
  refine ⟨fun K' j' hv' => ?_, fun o ho => ?_⟩
  · unfold wrG
    by_cases e : off K' j' = off K j
    · obtain ⟨rfl, rfl⟩ := hO.1 _ _ _ _ hv' hv e
      rw [if_pos rfl]
      unfold cel
      congr 4
      funext f'
      unfold updF st3
      by_cases ef : f' = f
      · subst ef; simp
      · simp [ef]
    · rw [if_neg e, h.1 K' j' hv']
      unfold cel
      congr 4
      funext f'
      unfold st3
      rw [if_neg]
      rintro ⟨rfl, rfl, -⟩
      exact e rfl
  · have := hO.2 K j hv
    unfold wrG
    rw [if_neg (by omega)]
    exact h.2 o ho
theorem LM.copy {V : Nat → Nat → Prop} {lo hi : Nat} {μ : Mem} {F G : RG} (h : LM V lo hi μ F G) (hO : OKV V lo hi) {K1 j1 K2 j2 sp dp n : Nat} (hv : V K2 j2) (h1 : ∀ f x, fld K1 j1 f x = .inl (.int x)) (h2 : ∀ f x, fld K2 j2 f x = .inl (.int x)) : LM V lo hi (cp3 μ K1 j1 K2 j2 sp dp n) F (wrG G (off K2 j2) (isA K2, ixK K2, lenK K2, va_cpy (fun f => fld K1 j1 f (μ K1 j1 f)) (fun f => fld K2 j2 f (μ K2 j2 f)) sp dp n)) := by
  refine ⟨fun K' j' hv' => ?_, fun o ho => ?_⟩
  · unfold wrG
    by_cases e : off K' j' = off K2 j2
    · obtain ⟨rfl, rfl⟩ := hO.1 _ _ _ _ hv' hv e
      rw [if_pos rfl]
      unfold cel
      congr 4
      funext f'
      unfold va_cpy cp3
      rw [h2]
      simp only [h1, h2, va_cpy, and_self, if_true]
      split <;> rfl
    · rw [if_neg e, h.1 K' j' hv']
      unfold cel
      congr 4
      funext f'
      unfold cp3
      rw [if_neg]
      rintro ⟨rfl, rfl⟩
      exact e rfl
  · have := hO.2 K2 j2 hv
    unfold wrG
    rw [if_neg (by omega)]
    exact h.2 o ho
def decS (k o : Nat) : Nat × Nat := if o = 0 then (9, k) else if o = 1 then (27, k) else if o = 2 then (28, k) else if o = 3 then (29, k) else if o = 4 then (30, k) else if o = 5 then (31, k) else if o = 6 then (32, k) else if o = 7 then (33, k) else if o < 32 then (5, 24 * k + (o - 8)) else (4, 5 * k + (o - 32))
def decU (s o : Nat) : Nat × Nat := if o = 0 then (7, s) else if o = 1 then (3, 3 * s) else if o = 2 then (23, 3 * s) else if o = 3 then (3, 3 * s + 1) else if o = 4 then (23, 3 * s + 1) else if o = 5 then (3, 3 * s + 2) else if o = 6 then (23, 3 * s + 2) else if o = 7 then (24, s) else if o = 8 then (25, s) else (26, s)
def decO (o : Nat) : Nat × Nat := if o = 0 then (12, 0) else if o = 1 then (11, 0) else if o = 2 then (20, 0) else if o = 3 then (8, 0) else if o = 4 then (6, 0) else if o = 5 then (21, 0) else if o = 6 then (22, 0) else if o < 67 then (10, o - 7) else if o < 87 then decU ((o - 67) / 10) ((o - 67) % 10)
  else if o < 161 then decS ((o - 87) / 37) ((o - 87) % 37) else if o = 161 then (2, 0) else if o = 162 then (34, 0) else if o < 459 then decS ((o - 89) / 37) ((o - 89) % 37) else if o = 459 then (35, 0) else if o = 460 then (36, 0) else if o < 535 then decS ((o - 91) / 37) ((o - 91) % 37)
  else (if o = 535 then 13 else o - 496, 0)
theorem decO_s {k c : Nat} (hk : k < 12) (hc : c < 37) : decO (sOff k + c) = decS k c := by
  unfold decO sOff
  by_cases h1 : k < 2
  · rw [if_pos h1]
    rw [if_neg (by omega), if_neg (by omega), if_neg (by omega), if_neg (by omega), if_neg (by omega), if_neg (by omega), if_neg (by omega), if_neg (by omega), if_neg (by omega), if_pos (by omega)]
    congr 1 <;> omega
  · rw [if_neg h1]
    by_cases h2 : k < 10
    · rw [if_pos h2]
      rw [if_neg (by omega), if_neg (by omega), if_neg (by omega), if_neg (by omega), if_neg (by omega), if_neg (by omega), if_neg (by omega), if_neg (by omega), if_neg (by omega), if_neg (by omega), if_neg (by omega), if_neg (by omega), if_pos (by omega)]
      congr 1 <;> omega
    · rw [if_neg h2]
      rw [if_neg (by omega), if_neg (by omega), if_neg (by omega), if_neg (by omega), if_neg (by omega), if_neg (by omega), if_neg (by omega), if_neg (by omega), if_neg (by omega), if_neg (by omega), if_neg (by omega), if_neg (by omega), if_neg (by omega), if_neg (by omega), if_neg (by omega), if_pos (by omega)]
      congr 1 <;> omega
theorem decO_u {s c : Nat} (hs : s < 2) (hc : c < 10) : decO (67 + 10 * s + c) = decU s c := by
  unfold decO
  rw [if_neg (by omega), if_neg (by omega), if_neg (by omega), if_neg (by omega), if_neg (by omega), if_neg (by omega), if_neg (by omega), if_neg (by omega), if_pos (by omega)]
  congr 1 <;> omega
theorem dec_2 {j : Nat} (h : vc 2 j) : decO (off 2 j) = (2, j) := by
  have h2 : j = 0 := h
  subst h2
  rfl
theorem dec_3 {j : Nat} (h : vc 3 j) : decO (off 3 j) = (3, j) := by
  have h2 : j < 6 := h
  rcases (show j = 0 ∨ j = 1 ∨ j = 2 ∨ j = 3 ∨ j = 4 ∨ j = 5 by omega) with rfl | rfl | rfl | rfl | rfl | rfl <;> rfl
theorem dec_4 {j : Nat} (h : vc 4 j) : decO (off 4 j) = (4, j) := by
  have h1 : off 4 j = sOff (j / 5) + (32 + j % 5) := by show sOff (j / 5) + 32 + j % 5 = _; omega
  have h2 : j < 60 := h
  rw [h1, decO_s (by omega) (by omega)]
  unfold decS
  rw [if_neg (by omega), if_neg (by omega), if_neg (by omega), if_neg (by omega), if_neg (by omega), if_neg (by omega), if_neg (by omega), if_neg (by omega), if_neg (by omega)]
  congr 1; omega
theorem dec_5 {j : Nat} (h : vc 5 j) : decO (off 5 j) = (5, j) := by
  have h1 : off 5 j = sOff (j / 24) + (8 + j % 24) := by show sOff (j / 24) + 8 + j % 24 = _; omega
  have h2 : j < 288 := h
  rw [h1, decO_s (by omega) (by omega)]
  unfold decS
  rw [if_neg (by omega), if_neg (by omega), if_neg (by omega), if_neg (by omega), if_neg (by omega), if_neg (by omega), if_neg (by omega), if_neg (by omega), if_pos (by omega)]
  congr 1; omega
theorem dec_6 {j : Nat} (h : vc 6 j) : decO (off 6 j) = (6, j) := by
  have h2 : j = 0 := h
  subst h2
  rfl
theorem dec_7 {j : Nat} (h : vc 7 j) : decO (off 7 j) = (7, j) := by
  have h2 : j < 2 := h
  have h1 : off 7 j = 67 + 10 * j + 0 := by show 67 + 10 * j = _; omega
  rw [h1, decO_u h2 (by omega)]
  rfl
theorem dec_8 {j : Nat} (h : vc 8 j) : decO (off 8 j) = (8, j) := by
  have h2 : j = 0 := h
  subst h2
  rfl
theorem dec_9 {j : Nat} (h : vc 9 j) : decO (off 9 j) = (9, j) := by
  have h2 : j < 12 := h
  exact (decO_s (c := 0) h2 (by omega)).trans rfl
theorem dec_10 {j : Nat} (h : vc 10 j) : decO (off 10 j) = (10, j) := by
  have h2 : j < 60 := h
  show decO (7 + j) = _
  unfold decO
  rw [if_neg (by omega), if_neg (by omega), if_neg (by omega), if_neg (by omega), if_neg (by omega), if_neg (by omega), if_neg (by omega), if_pos (by omega)]
  congr 1; omega
theorem dec_11 {j : Nat} (h : vc 11 j) : decO (off 11 j) = (11, j) := by
  have h2 : j = 0 := h
  subst h2
  rfl
theorem dec_12 {j : Nat} (h : vc 12 j) : decO (off 12 j) = (12, j) := by
  have h2 : j = 0 := h
  subst h2
  rfl
theorem dec_20 {j : Nat} (h : vc 20 j) : decO (off 20 j) = (20, j) := by
  have h2 : j = 0 := h
  subst h2
  rfl
theorem dec_21 {j : Nat} (h : vc 21 j) : decO (off 21 j) = (21, j) := by
  have h2 : j = 0 := h
  subst h2
  rfl
theorem dec_22 {j : Nat} (h : vc 22 j) : decO (off 22 j) = (22, j) := by
  have h2 : j = 0 := h
  subst h2
  rfl
theorem dec_23 {j : Nat} (h : vc 23 j) : decO (off 23 j) = (23, j) := by
  have h2 : j < 6 := h
  rcases (show j = 0 ∨ j = 1 ∨ j = 2 ∨ j = 3 ∨ j = 4 ∨ j = 5 by omega) with rfl | rfl | rfl | rfl | rfl | rfl <;> rfl
theorem dec_24 {j : Nat} (h : vc 24 j) : decO (off 24 j) = (24, j) := by
  have h2 : j < 2 := h
  have h1 : off 24 j = 67 + 10 * j + 7 := by show 74 + 10 * j = _; omega
  rw [h1, decO_u h2 (by omega)]
  rfl
theorem dec_25 {j : Nat} (h : vc 25 j) : decO (off 25 j) = (25, j) := by
  have h2 : j < 2 := h
  have h1 : off 25 j = 67 + 10 * j + 8 := by show 75 + 10 * j = _; omega
  rw [h1, decO_u h2 (by omega)]
  rfl
theorem dec_26 {j : Nat} (h : vc 26 j) : decO (off 26 j) = (26, j) := by
  have h2 : j < 2 := h
  have h1 : off 26 j = 67 + 10 * j + 9 := by show 76 + 10 * j = _; omega
  rw [h1, decO_u h2 (by omega)]
  rfl
theorem dec_27 {j : Nat} (h : vc 27 j) : decO (off 27 j) = (27, j) := by
  have h2 : j < 12 := h
  exact (decO_s (c := 1) h2 (by omega)).trans rfl
theorem dec_28 {j : Nat} (h : vc 28 j) : decO (off 28 j) = (28, j) := by
  have h2 : j < 12 := h
  exact (decO_s (c := 2) h2 (by omega)).trans rfl
theorem dec_29 {j : Nat} (h : vc 29 j) : decO (off 29 j) = (29, j) := by
  have h2 : j < 12 := h
  exact (decO_s (c := 3) h2 (by omega)).trans rfl
theorem dec_30 {j : Nat} (h : vc 30 j) : decO (off 30 j) = (30, j) := by
  have h2 : j < 12 := h
  exact (decO_s (c := 4) h2 (by omega)).trans rfl
theorem dec_31 {j : Nat} (h : vc 31 j) : decO (off 31 j) = (31, j) := by
  have h2 : j < 12 := h
  exact (decO_s (c := 5) h2 (by omega)).trans rfl
theorem dec_32 {j : Nat} (h : vc 32 j) : decO (off 32 j) = (32, j) := by
  have h2 : j < 12 := h
  exact (decO_s (c := 6) h2 (by omega)).trans rfl
theorem dec_33 {j : Nat} (h : vc 33 j) : decO (off 33 j) = (33, j) := by
  have h2 : j < 12 := h
  exact (decO_s (c := 7) h2 (by omega)).trans rfl
theorem dec_34 {j : Nat} (h : vc 34 j) : decO (off 34 j) = (34, j) := by
  have h2 : j = 0 := h
  subst h2
  rfl
theorem dec_35 {j : Nat} (h : vc 35 j) : decO (off 35 j) = (35, j) := by
  have h2 : j = 0 := h
  subst h2
  rfl
theorem dec_36 {j : Nat} (h : vc 36 j) : decO (off 36 j) = (36, j) := by
  have h2 : j = 0 := h
  subst h2
  rfl
theorem vc_dec : ∀ {K j : Nat}, vc K j → decO (off K j) = (K, j) := by
  intro K j h
  unfold vc at h
  split at h
  · exact dec_2 h
  · exact dec_3 h
  · exact dec_4 h
  · exact dec_5 h
  · exact dec_6 h
  · exact dec_7 h
  · exact dec_8 h
  · exact dec_9 h
  · exact dec_10 h
  · exact dec_11 h
  · exact dec_12 h
  · exact dec_20 h
  · exact dec_21 h
  · exact dec_22 h
  · exact dec_23 h
  · exact dec_24 h
  · exact dec_25 h
  · exact dec_26 h
  · exact dec_27 h
  · exact dec_28 h
  · exact dec_29 h
  · exact dec_30 h
  · exact dec_31 h
  · exact dec_32 h
  · exact dec_33 h
  · exact dec_34 h
  · exact dec_35 h
  · exact dec_36 h
  · exact h.elim
theorem vc_lt : ∀ {K j : Nat}, vc K j → 0 ≤ off K j ∧ off K j < 535 := by
  intro K j h
  unfold vc at h
  split at h
  · exact ⟨Nat.zero_le _, by show 161 < 535; omega⟩
  · exact ⟨Nat.zero_le _, by show 68 + 10 * (j / 3) + 2 * (j % 3) < 535; omega⟩
  · exact ⟨Nat.zero_le _, by show sOff (j / 5) + 32 + j % 5 < 535; have := sOff_b ((j / 5)); omega⟩
  · exact ⟨Nat.zero_le _, by show sOff (j / 24) + 8 + j % 24 < 535; have := sOff_b ((j / 24)); omega⟩
  · exact ⟨Nat.zero_le _, by show 4 < 535; omega⟩
  · exact ⟨Nat.zero_le _, by show 67 + 10 * j < 535; omega⟩
  · exact ⟨Nat.zero_le _, by show 3 < 535; omega⟩
  · exact ⟨Nat.zero_le _, by show sOff j < 535; have := sOff_b (j); omega⟩
  · exact ⟨Nat.zero_le _, by show 7 + j < 535; omega⟩
  · exact ⟨Nat.zero_le _, by show 1 < 535; omega⟩
  · exact ⟨Nat.zero_le _, by show 0 < 535; omega⟩
  · exact ⟨Nat.zero_le _, by show 2 < 535; omega⟩
  · exact ⟨Nat.zero_le _, by show 5 < 535; omega⟩
  · exact ⟨Nat.zero_le _, by show 6 < 535; omega⟩
  · exact ⟨Nat.zero_le _, by show 69 + 10 * (j / 3) + 2 * (j % 3) < 535; omega⟩
  · exact ⟨Nat.zero_le _, by show 74 + 10 * j < 535; omega⟩
  · exact ⟨Nat.zero_le _, by show 75 + 10 * j < 535; omega⟩
  · exact ⟨Nat.zero_le _, by show 76 + 10 * j < 535; omega⟩
  · exact ⟨Nat.zero_le _, by show sOff j + 1 < 535; have := sOff_b (j); omega⟩
  · exact ⟨Nat.zero_le _, by show sOff j + 2 < 535; have := sOff_b (j); omega⟩
  · exact ⟨Nat.zero_le _, by show sOff j + 3 < 535; have := sOff_b (j); omega⟩
  · exact ⟨Nat.zero_le _, by show sOff j + 4 < 535; have := sOff_b (j); omega⟩
  · exact ⟨Nat.zero_le _, by show sOff j + 5 < 535; have := sOff_b (j); omega⟩
  · exact ⟨Nat.zero_le _, by show sOff j + 6 < 535; have := sOff_b (j); omega⟩
  · exact ⟨Nat.zero_le _, by show sOff j + 7 < 535; have := sOff_b (j); omega⟩
  · exact ⟨Nat.zero_le _, by show 162 < 535; omega⟩
  · exact ⟨Nat.zero_le _, by show 459 < 535; omega⟩
  · exact ⟨Nat.zero_le _, by show 460 < 535; omega⟩
  · exact h.elim
theorem okC : OKV vc 0 535 := ⟨fun K j K' j' h h' e => by have := (vc_dec h).symm.trans ((congrArg decO e).trans (vc_dec h')); exact ⟨congrArg Prod.fst this, congrArg Prod.snd this⟩, fun _ _ h => vc_lt h⟩
theorem off_o {K j : Nat} (h1 : 60 ≤ K) (h2 : K ≤ 80) : off K j = j + (K - 60) := by
  rcases (show K = 60 ∨ K = 61 ∨ K = 62 ∨ K = 63 ∨ K = 64 ∨ K = 65 ∨ K = 66 ∨ K = 67 ∨ K = 68 ∨ K = 69 ∨ K = 70 ∨ K = 71 ∨ K = 72 ∨ K = 73 ∨ K = 74 ∨ K = 75 ∨ K = 76 ∨ K = 77 ∨ K = 78 ∨ K = 79 ∨ K = 80 by omega) with rfl | rfl | rfl | rfl | rfl | rfl | rfl | rfl | rfl | rfl | rfl | rfl | rfl | rfl | rfl | rfl | rfl | rfl | rfl | rfl | rfl <;> rfl
theorem okO {b : Nat} : OKV (vo b) b (b + 21) := ⟨fun K j K' j' h h' e => by
    obtain ⟨h1, h2, rfl⟩ := h
    obtain ⟨h3, h4, rfl⟩ := h'
    rw [off_o h1 h2, off_o h3 h4] at e
    exact ⟨by omega, rfl⟩, fun K j h => by
    obtain ⟨h1, h2, rfl⟩ := h
    rw [off_o h1 h2]
    omega⟩
theorem vo_0 {b : Nat} : vo b 60 b := ⟨by decide, by decide, rfl⟩

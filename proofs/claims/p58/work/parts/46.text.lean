/-! Names, digits, the texts of a prophecy and of the queue. -/
/-! Names: five bits a letter, or to the base 27. -/
theorem nI_sub {a b : Nat} (h : b ≤ a) : nI a - nI b = nI (a - b) := by
  have e : nI a = nI (a - b) + nI b := by rw [nI_add, Nat.sub_add_cancel h]
  rw [e, Int32.add_sub_cancel]
def fb (b : Nat) (w : List Nat) : Nat := w.foldl (fun a l => b * a + l) 0
theorem fb_snoc {b : Nat} {w : List Nat} {l : Nat} : fb b (w ++ [l]) = b * fb b w + l := by
  unfold fb
  rw [List.foldl_append]
  rfl
def lets (w : List Nat) : Prop := ∀ l ∈ w, 1 ≤ l ∧ l ≤ 26
/-- words backwards -/
def fr (b : Nat) : List Nat → Nat
  | [] => 0
  | l :: w => b * fr b w + l
theorem fr_inj {b : Nat} (hb : 27 ≤ b) : ∀ (w w' : List Nat), lets w → lets w' → fr b w = fr b w' → w = w'
  | [], [], _, _, _ => rfl
  | [], l :: w', _, h', e => by
    have := (h' l (List.mem_cons_self ..)).1
    simp only [fr] at e
    omega
  | l :: w, [], h, _, e => by
    have := (h l (List.mem_cons_self ..)).1
    simp only [fr] at e
    omega
  | l :: w, l' :: w', h, h', e => by
    have h1 := h l (List.mem_cons_self ..)
    have h2 := h' l' (List.mem_cons_self ..)
    simp only [fr] at e
    have m1 : (b * fr b w + l) % b = l := by rw [Nat.mul_add_mod]; exact Nat.mod_eq_of_lt (by omega)
    have m2 : (b * fr b w' + l') % b = l' := by rw [Nat.mul_add_mod]; exact Nat.mod_eq_of_lt (by omega)
    have hl : l = l' := by rw [← m1, ← m2, e]
    subst hl
    have e2 : b * fr b w = b * fr b w' := by omega
    have e3 : fr b w = fr b w' := Nat.eq_of_mul_eq_mul_left (by omega) e2
    rw [fr_inj hb w w' (fun x hx => h x (List.mem_cons_of_mem _ hx)) (fun x hx => h' x (List.mem_cons_of_mem _ hx)) e3]
theorem fb_fr (b : Nat) (w : List Nat) : fb b w = fr b w.reverse := by
  have : ∀ v : List Nat, fb b v.reverse = fr b v := by
    intro v
    induction v with
    | nil => rfl
    | cons l v ih => rw [List.reverse_cons, fb_snoc, ih]; rfl
  have h := this w.reverse
  rwa [List.reverse_reverse] at h
theorem fb_inj {b : Nat} (hb : 27 ≤ b) {w w' : List Nat} (h : lets w) (h' : lets w') (e : fb b w = fb b w') : w = w' := by
  rw [fb_fr, fb_fr] at e
  have := fr_inj hb w.reverse w'.reverse (fun l hl => h l (List.mem_reverse.mp hl)) (fun l hl => h' l (List.mem_reverse.mp hl)) e
  have h2 := congrArg List.reverse this
  rwa [List.reverse_reverse, List.reverse_reverse] at h2
theorem fr_lt {b : Nat} (hb : 27 ≤ b) : ∀ w, lets w → fr b w < b ^ w.length
  | [], _ => by show 0 < b ^ 0; rw [Nat.pow_zero]; omega
  | l :: w, h => by
    have h1 := h l (List.mem_cons_self ..)
    have ih := fr_lt hb w (fun x hx => h x (List.mem_cons_of_mem _ hx))
    show b * fr b w + l < b ^ (w.length + 1)
    rw [Nat.pow_succ]
    have : b * (fr b w + 1) ≤ b * b ^ w.length := Nat.mul_le_mul_left _ ih
    rw [Nat.mul_add, Nat.mul_one] at this
    rw [Nat.mul_comm (b ^ w.length)]
    omega
theorem fb_lt {b : Nat} (hb : 27 ≤ b) {w : List Nat} (h : lets w) : fb b w < b ^ w.length := by
  rw [fb_fr]
  have := fr_lt hb w.reverse (fun l hl => h l (List.mem_reverse.mp hl))
  rwa [List.length_reverse] at this
theorem e5_fb (w : List Nat) : e5 w = fb 32 w := rfl
theorem e27_fb (w : List Nat) : e27 w = fb 27 w := rfl
theorem e5_lt {w : List Nat} (h : okw w) : e5 w < 2 ^ 30 := Nat.lt_of_lt_of_le (fb_lt (b := 32) (by omega) h.2.2) (by
  have : (32 : Nat) ^ w.length ≤ 32 ^ 6 := Nat.pow_le_pow_right (by omega) h.2.1
  exact Nat.le_trans this (by decide))
theorem e27_lt {w : List Nat} (h : okw w) : e27 w < 2 ^ 30 := Nat.lt_of_lt_of_le (fb_lt (b := 27) (by omega) h.2.2) (by
  have : (27 : Nat) ^ w.length ≤ 27 ^ 6 := Nat.pow_le_pow_right (by omega) h.2.1
  exact Nat.le_trans this (by decide))
theorem e5_pos {w : List Nat} (h : okw w) : 1 ≤ e5 w := by
  rw [e5_fb]
  rcases Nat.eq_zero_or_pos (fb 32 w) with z | z
  · exact absurd (fb_inj (b := 32) (by omega) h.2.2 (w' := []) (fun l hl => absurd hl (List.not_mem_nil)) z) h.1
  · exact z
abbrev isL (b : Nat) : Prop := 97 ≤ b ∧ b ≤ 122
def wl (B : Nat → Nat) (f : Nat) : Nat → List Nat
  | 0 => []
  | k + 1 => wl B f k ++ [B (f + k) - 96]
theorem wl_len {B : Nat → Nat} {f : Nat} : ∀ {k : Nat}, (wl B f k).length = k
  | 0 => rfl
  | k + 1 => by
    unfold wl
    rw [List.length_append, wl_len]
    rfl
theorem wl_lets {B : Nat → Nat} {f : Nat} : ∀ {k : Nat}, (∀ i, i < k → isL (B (f + i))) → lets (wl B f k)
  | 0, _ => fun l hl => absurd hl (List.not_mem_nil)
  | k + 1, h => fun l hl => by
    unfold wl at hl
    rcases List.mem_append.mp hl with q | q
    · exact wl_lets (fun i hi => h i (by omega)) l q
    · obtain rfl := List.mem_singleton.mp q
      have := h k (by omega)
      unfold isL at this
      omega
theorem wl_ok {B : Nat → Nat} {f k : Nat} (h : ∀ i, i < k → isL (B (f + i))) (h1 : 1 ≤ k) (h6 : k ≤ 6) : okw (wl B f k) := ⟨fun z => by have := wl_len (B := B) (f := f) (k := k); rw [z] at this; simp at this; omega, by rw [wl_len]; exact h6, wl_lets h⟩
theorem nI_bv (n : Nat) : (nI n).toBitVec = BitVec.ofNat 32 n := rfl
theorem sh5 {c l : Nat} (hc : c < 2 ^ 25) (hl : l < 32) : (nI c <<< (5 &&& 31)) ||| nI l = nI (32 * c + l) := by
  apply Int32.toBitVec_inj.mp
  have e : ((nI c <<< (5 &&& 31)) ||| nI l).toBitVec = (BitVec.ofNat 32 c <<< 5) ||| BitVec.ofNat 32 l := rfl
  rw [e, nI_bv]
  apply BitVec.eq_of_toNat_eq
  rw [BitVec.toNat_or, BitVec.toNat_shiftLeft, BitVec.toNat_ofNat, BitVec.toNat_ofNat, BitVec.toNat_ofNat, Nat.mod_eq_of_lt (show c < 2 ^ 32 by omega), Nat.mod_eq_of_lt (show l < 2 ^ 32 by omega), Nat.mod_eq_of_lt (show 32 * c + l < 2 ^ 32 by omega)]
  have h1 : c <<< 5 = 32 * c := by rw [Nat.shiftLeft_eq]; omega
  rw [h1, Nat.mod_eq_of_lt (by omega)]
  have h2 := Nat.shiftLeft_add_eq_or_of_lt (i := 5) (b := l) (by omega) c
  rw [h1] at h2
  exact h2.symm
/-- the digits of a number -/
def digs (v : Nat) : List Nat := (List.range (dl v)).map (fun j => 48 + v / 10 ^ (dl v - 1 - j) % 10)
def lts (w : List Nat) : List Nat := w.map (fun l => 96 + l)
theorem digs_len {v : Nat} : (digs v).length = dl v := by unfold digs; rw [List.length_map, List.length_range]
theorem digs_at {v j : Nat} (h : j < dl v) : (digs v).getD j 0 = 48 + v / 10 ^ (dl v - 1 - j) % 10 := by
  unfold digs
  rw [List.getD_eq_getElem?_getD, List.getElem?_map, List.getElem?_range h]
  rfl
theorem getD_app1 {l r : List Nat} {i : Nat} (h : i < l.length) : (l ++ r).getD i 0 = l.getD i 0 := by
  rw [List.getD_eq_getElem?_getD, List.getD_eq_getElem?_getD, List.getElem?_append_left h]
theorem getD_app2 {l r : List Nat} {i : Nat} (h : l.length ≤ i) : (l ++ r).getD i 0 = r.getD (i - l.length) 0 := by
  rw [List.getD_eq_getElem?_getD, List.getD_eq_getElem?_getD, List.getElem?_append_right h]
theorem snoc_ind {P : List Nat → Prop} (h0 : P []) (h1 : ∀ w x, P w → P (w ++ [x])) : ∀ w, P w := by
  intro w
  have H : ∀ w : List Nat, P w.reverse := by
    intro w
    induction w with
    | nil => exact h0
    | cons x w ih => rw [List.reverse_cons]; exact h1 _ _ ih
  have := H w.reverse
  rwa [List.reverse_reverse] at this
theorem dl_pw {v : Nat} (h : v < 100000) : v < 10 ^ dl v ∧ (dl v = 1 ∨ 10 ^ (dl v - 1) ≤ v) := by
  unfold dl
  repeat' split
  all_goals simp
  all_goals omega
theorem take_snoc {w : List Nat} {i : Nat} (h : i < w.length) : w.take (i + 1) = w.take i ++ [w.getD i 0] := by
  rw [List.take_add_one, List.getD_eq_getElem?_getD, List.getElem?_eq_getElem h]
  rfl
theorem fb_dig {b : Nat} (hb : 27 ≤ b) : ∀ (w : List Nat), lets w → ∀ j, j < w.length → fb b w / b ^ j % b = w.getD (w.length - 1 - j) 0 := by
  intro w
  refine snoc_ind (P := fun w => lets w → ∀ j, j < w.length → fb b w / b ^ j % b = w.getD (w.length - 1 - j) 0) (fun _ j hj => absurd hj (Nat.not_lt_zero _)) (fun w x ih => ?_) w
  · intro hw j hj
    rw [List.length_append] at hj ⊢
    replace hj : j < w.length + 1 := hj
    show _ = (w ++ [x]).getD (w.length + 1 - 1 - j) 0
    have hx := hw x (by simp)
    rw [fb_snoc]
    cases j with
    | zero =>
      rw [Nat.pow_zero, Nat.div_one, Nat.mul_add_mod, Nat.mod_eq_of_lt (by omega), getD_app2 (by omega), show w.length + 1 - 1 - 0 - w.length = 0 by omega]
      rfl
    | succ j =>
      rw [Nat.pow_succ, Nat.mul_comm (b ^ j) b, ← Nat.div_div_eq_div_mul, Nat.mul_add_div (by omega), Nat.div_eq_of_lt (show x < b by omega), Nat.add_zero, ih (fun z hz => hw z (by simp [hz])) j (by omega), getD_app1 (by omega)]
      congr 1
      omega
theorem lts_snoc {w : List Nat} {i : Nat} (h : i < w.length) : lts (w.take (i + 1)) = lts (w.take i) ++ [96 + w.getD i 0] := by
  unfold lts
  rw [List.take_add_one, List.map_append, List.getD_eq_getElem?_getD, List.getElem?_eq_getElem h]
  rfl
/-! The text of a prophecy and of the queue: what the model writes. -/
def NX (μ : Mem) (k : Nat) (x : Int32) (t : List Nat) : Prop := ∃ c n w, x = nI c ∧ c < n ∧ n ≤ 8 ∧ μ 3 k 1 = nI n ∧ okw w ∧ μ 23 k c = nI (e5 w) ∧ t = lts w
def NB (x : Int32) (t : List Nat) : Prop := ∃ d, d ≤ 20000 ∧ x = nI d ∧ t = digs d
/-- the text of the prophecy q, as the class knows it -/
def PTX (μ : Mem) (s q : Nat) (tx : List Nat) : Prop := ∃ t1 t2 t3 t4 t5 tk, q < 24 ∧ s < 2 ∧ μ 12 0 3 = nI s ∧ NX μ (3 * s + 2) (μ 5 q 0) t1 ∧ NX μ (3 * s) (μ 5 q 2) t2 ∧ ((μ 5 q 1 = 1 ∧ t3 = [42]) ∨ (μ 5 q 1 ≠ 1 ∧ NX μ (3 * s + 1) (μ 5 q 3) t3)) ∧ NB (μ 5 q 4) t4 ∧ NB (μ 5 q 5) t5 ∧ ((μ 5 q 1 = 2 ∧ tk = [33]) ∨ (μ 5 q 1 ≠ 2 ∧ tk = [])) ∧ tx = ((((((((t1 ++ [58]) ++ tk) ++ t2) ++ [64]) ++ t3) ++ [32]) ++ t4) ++ [45]) ++ t5
theorem lts_len {w : List Nat} : (lts w).length = w.length := by unfold lts; rw [List.length_map]
theorem dl20 {d : Nat} (h : d ≤ 20000) : dl d ≤ 5 := dl_le.2
theorem nI_m1 {l : Nat} (h : l < 2 ^ 31) : ¬ nI l = -1 := by
  intro z
  have z2 := congrArg Int32.toInt z
  rw [nI_toInt h] at z2
  have : ((-1 : Int32)).toInt = -1 := by decide
  omega
def qtx (f : Nat → Nat) : Nat → List Nat
  | 0 => []
  | i + 1 => (qtx f i ++ (if i = 0 then [] else [44])) ++ digs (f i)
theorem dl_24 {v : Nat} (h : v < 24) : dl v ≤ 2 := by
  unfold dl
  split
  · omega
  · rw [if_pos (by omega)]; omega
theorem qtx_len {f : Nat → Nat} : ∀ {i : Nat}, (∀ k, k < i → f k < 24) → (qtx f i).length ≤ 3 * i := by
  intro i
  induction i with
  | zero => intro _; exact Nat.le_refl _
  | succ i ih =>
    intro h
    have h1 := ih (fun k hk => h k (by omega))
    show ((qtx f i ++ (if i = 0 then [] else [44])) ++ digs (f i)).length ≤ _
    rw [List.length_append, List.length_append, digs_len]
    have h2 := dl_24 (h i (by omega))
    split
    · show _ + 0 + _ ≤ _; omega
    · show _ + 1 + _ ≤ _; omega
theorem qtx_len1 {f : Nat → Nat} : ∀ {i : Nat}, (∀ k, k < i → f k < 24) → (qtx f i).length ≤ 3 * i - 1 := by
  intro i
  induction i with
  | zero => intro _; exact Nat.le_refl _
  | succ i ih =>
    intro h
    have h1 := ih (fun k hk => h k (by omega))
    show ((qtx f i ++ (if i = 0 then [] else [44])) ++ digs (f i)).length ≤ _
    rw [List.length_append, List.length_append, digs_len]
    have h2 := dl_24 (h i (by omega))
    split
    · show _ + 0 + _ ≤ _; omega
    · show _ + 1 + _ ≤ _; omega
/-- the queue's text, as the class knows it -/
def QTX (μ : Mem) (tx : List Nat) : Prop := ∃ w f, w ≤ 24 ∧ μ 9 0 8 = nI w ∧ (∀ k, k < w → f k < 24 ∧ μ 30 0 k = nI (f k)) ∧ tx = qtx f w
theorem okw2 {p k : Nat} (hp : 1 ≤ p ∧ p ≤ 26) (hk : k < 26) : okw [p, k + 1] := ⟨by simp, by simp, fun l hl => by
  simp at hl
  rcases hl with rfl | rfl <;> omega⟩
theorem NM_nm {x : Int32} {p k : Nat} (hp : 1 ≤ p ∧ p ≤ 26) (hk : k < 26) (h : NM x (nI (e27 [p, k + 1]))) : x = nI (e5 [p, k + 1]) := by
  obtain ⟨w, hw, rfl, e⟩ := h
  have h2 := okw2 hp hk
  have b1 := e27_lt hw
  have b2 := e27_lt h2
  rw [nI_eq (by omega) (by omega), e27_fb, e27_fb] at e
  rw [fb_inj (by omega) h2.2.2 hw.2.2 e]
/-- the law's names -/
def nm2 (p : Nat) (x : Int32) : List Nat := [96 + p, 97 + x.toNatClampNeg]
theorem lts_nm {p k : Nat} (h : k < 2 ^ 31) : lts [p, k + 1] = nm2 p (nI k) := by
  unfold nm2
  rw [nI_clamp h]
  show [96 + p, 96 + (k + 1)] = _
  rw [show 96 + (k + 1) = 97 + k by omega]
/-- the text of the prophecy k, as the law writes it -/
def ptx (v : Mem) (b k : Nat) : List Nat := ((((((((nm2 3 (v 68 b k) ++ [58]) ++ (if v 78 b k = 0 then [] else [33])) ++ nm2 5 (v 69 b k)) ++ [64]) ++ (if v 70 b k < 0 then [42] else nm2 16 (v 70 b k))) ++ [32]) ++ digs (v 71 b k).toNatClampNeg) ++ [45]) ++ digs (v 72 b k).toNatClampNeg
def qtO (v : Mem) (b w : Nat) : List Nat := qtx (fun k => (v 77 b k).toNatClampNeg) w
section Texts9
variable {c0 : Int32} {μ v : Mem} {s b E P C O n w t dd : Nat}
theorem ro_ne {e : Nat} (h : e < 6) : rO c0 b v (16 + e) = nI (e27 [5, e + 1]) := by
  rcases (show e = 0 ∨ e = 1 ∨ e = 2 ∨ e = 3 ∨ e = 4 ∨ e = 5 by omega) with rfl | rfl | rfl | rfl | rfl | rfl <;> rfl
theorem ro_np {e : Nat} (h : e < 6) : rO c0 b v (22 + e) = nI (e27 [16, e + 1]) := by
  rcases (show e = 0 ∨ e = 1 ∨ e = 2 ∨ e = 3 ∨ e = 4 ∨ e = 5 by omega) with rfl | rfl | rfl | rfl | rfl | rfl <;> rfl
theorem ro_nc {e : Nat} (h : e < 8) : rO c0 b v (28 + 3 * e + 0) = nI (e27 [3, e + 1]) := by
  rcases (show e = 0 ∨ e = 1 ∨ e = 2 ∨ e = 3 ∨ e = 4 ∨ e = 5 ∨ e = 6 ∨ e = 7 by omega) with rfl | rfl | rfl | rfl | rfl | rfl | rfl | rfl <;> rfl
theorem nI_neg1 {l : Nat} (h : l < 2 ^ 31) : ¬ nI l < 0 := nI_nlt (b := 0) (by omega) (by omega)
theorem T_ptx (hQ : QS c0 μ 0 s b v E P C O n w t dd) (h12 : μ 12 0 3 = nI s) {k : Nat} (hk : k < n) : PTX μ s (24 * 0 + k) (ptx v b k) := by
  have h24 := P_lt hQ hk
  obtain ⟨⟨c, hc, q0, m0⟩, ⟨e, he, q2, m1⟩, hkk, ⟨d1, hd1, q4, m4⟩, ⟨d2, hd2, q5, m5⟩, -⟩ := P_row hQ hk
  obtain ⟨hs2, hE6, hP6, hC8, hO5, ⟨sE, -⟩, ⟨sP, -⟩, ⟨sC, -⟩, -, -, -, -, -, hNe, hNp, hNc, -, -⟩ := hQ.2.1
  rw [ro_p0 h24] at m0
  rw [ro_p1 h24] at m1
  rw [ro_p4 h24] at m4
  rw [ro_p5 h24] at m5
  rw [ro_p2 h24, ro_p3 h24] at hkk
  have nc := (hNc c hc).1
  rw [ro_nc (by omega)] at nc
  have ne := hNe e he
  rw [ro_ne (by omega)] at ne
  have kP : ∀ l, l < P → NX μ (3 * s + 1) (nI l) (nm2 16 (nI l)) := fun l hl => by
    have np := hNp l hl
    rw [ro_np (by omega)] at np
    exact ⟨l, P, [16, l + 1], rfl, hl, by omega, sP, okw2 (by omega) (by omega), NM_nm (by omega) (by omega) np, (lts_nm (by omega)).symm⟩
  unfold ptx
  refine ⟨nm2 3 (v 68 b k), nm2 5 (v 69 b k), (if v 70 b k < 0 then [42] else nm2 16 (v 70 b k)), digs (v 71 b k).toNatClampNeg, digs (v 72 b k).toNatClampNeg, (if v 78 b k = 0 then [] else [33]), by omega, hs2, h12, ?_, ?_, ?_, ⟨d1, hd1, q4, ?_⟩, ⟨d2, hd2, q5, ?_⟩, ?_, rfl⟩
  · rw [m0]
    exact ⟨c, C, [3, c + 1], q0, hc, by omega, sC, okw2 (by omega) (by omega), NM_nm (by omega) (by omega) nc, (lts_nm (by omega)).symm⟩
  · rw [m1]
    exact ⟨e, E, [5, e + 1], q2, he, by omega, sE, okw2 (by omega) (by omega), NM_nm (by omega) (by omega) ne, (lts_nm (by omega)).symm⟩
  · rcases hkk with ⟨k1, k2, k3, -⟩ | ⟨k1, ⟨l, hl, k2, k3⟩, -⟩ | ⟨k1, ⟨l, hl, k2, k3⟩, -⟩
    · exact Or.inl ⟨k1, by rw [k3]; rfl⟩
    · refine Or.inr ⟨by rw [k1]; decide, ?_⟩
      rw [k3, if_neg (nI_neg1 (by omega)), k2]
      exact kP l hl
    · refine Or.inr ⟨by rw [k1]; decide, ?_⟩
      rw [k3, if_neg (nI_neg1 (by omega)), k2]
      exact kP l hl
  · rw [m4, nI_clamp (by omega)]
  · rw [m5, nI_clamp (by omega)]
  · rcases hkk with ⟨k1, -, -, k4⟩ | ⟨k1, -, k4⟩ | ⟨k1, -, k4⟩
    · exact Or.inr ⟨by rw [k1]; decide, by rw [k4]; rfl⟩
    · exact Or.inr ⟨by rw [k1]; decide, by rw [k4]; rfl⟩
    · exact Or.inl ⟨k1, by rw [k4]; rfl⟩
theorem T_qtx (hQ : QS c0 μ 0 s b v E P C O n w t dd) : QTX μ (qtO v b w) ∧ w ≤ 24 ∧ ∀ k, k < w → ∃ f, f < n ∧ f < 24 ∧ v 77 b k = nI f := by
  obtain ⟨hn, hw, -, -, -, -, -, s5, a10, s8, a12, -⟩ := hQ.2.2.1.1
  have hq := hQ.2.2.1.2.2.2.2.1
  have hf : ∀ k, k < w → ∃ f, f < n ∧ f < 24 ∧ v 77 b k = nI f ∧ μ 30 0 k = nI f := fun k hk => by
    obtain ⟨h0, x, h1, h2⟩ := hq.1 k hk
    rw [ro_q] at h0 h2
    exact ⟨x, h1, by omega, h2, h0.trans h2⟩
  refine ⟨⟨w, fun k => (v 77 b k).toNatClampNeg, hw, s8, fun k hk => ?_, rfl⟩, hw, fun k hk => ?_⟩
  · obtain ⟨f, f1, f2, f3, f4⟩ := hf k hk
    show (v 77 b k).toNatClampNeg < 24 ∧ μ 30 0 k = nI (v 77 b k).toNatClampNeg
    rw [f3, nI_clamp (by omega)]
    exact ⟨f2, f4⟩
  · obtain ⟨f, f1, f2, f3, -⟩ := hf k hk
    exact ⟨f, f1, f2, f3⟩
end Texts9

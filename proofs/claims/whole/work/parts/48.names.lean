/-! Names: five bits a letter, or to the base 27. -/
theorem nI_sub {a b : Nat} (h : b ≤ a) : nI a - nI b = nI (a - b) := by
  have e : nI a = nI (a - b) + nI b := by rw [nI_add, Nat.sub_add_cancel h]
  rw [e, Int32.add_sub_cancel]
def fb (b : Nat) (w : List Nat) : Nat := w.foldl (fun a l => b * a + l) 0
theorem fb_snoc {b : Nat} {w : List Nat} {l : Nat} : fb b (w ++ [l]) = b * fb b w + l := by
  unfold fb
  rw [List.foldl_append]
  rfl
def lets (w : List Nat) : Prop := ∀ l ∈ w, 1 ≤ l ∧ l ≤ 26
/-- words backwards -/
def fr (b : Nat) : List Nat → Nat
  | [] => 0
  | l :: w => b * fr b w + l
theorem fr_inj {b : Nat} (hb : 27 ≤ b) : ∀ (w w' : List Nat), lets w → lets w' → fr b w = fr b w' → w = w'
  | [], [], _, _, _ => rfl
  | [], l :: w', _, h', e => by
    have := (h' l (List.mem_cons_self ..)).1
    simp only [fr] at e
    omega
  | l :: w, [], h, _, e => by
    have := (h l (List.mem_cons_self ..)).1
    simp only [fr] at e
    omega
  | l :: w, l' :: w', h, h', e => by
    have h1 := h l (List.mem_cons_self ..)
    have h2 := h' l' (List.mem_cons_self ..)
    simp only [fr] at e
    have m1 : (b * fr b w + l) % b = l := by rw [Nat.mul_add_mod]; exact Nat.mod_eq_of_lt (by omega)
    have m2 : (b * fr b w' + l') % b = l' := by rw [Nat.mul_add_mod]; exact Nat.mod_eq_of_lt (by omega)
    have hl : l = l' := by rw [← m1, ← m2, e]
    subst hl
    have e2 : b * fr b w = b * fr b w' := by omega
    have e3 : fr b w = fr b w' := Nat.eq_of_mul_eq_mul_left (by omega) e2
    rw [fr_inj hb w w' (fun x hx => h x (List.mem_cons_of_mem _ hx)) (fun x hx => h' x (List.mem_cons_of_mem _ hx)) e3]
theorem fb_fr (b : Nat) (w : List Nat) : fb b w = fr b w.reverse := by
  have : ∀ v : List Nat, fb b v.reverse = fr b v := by
    intro v
    induction v with
    | nil => rfl
    | cons l v ih => rw [List.reverse_cons, fb_snoc, ih]; rfl
  have h := this w.reverse
  rwa [List.reverse_reverse] at h
theorem fb_inj {b : Nat} (hb : 27 ≤ b) {w w' : List Nat} (h : lets w) (h' : lets w') (e : fb b w = fb b w') : w = w' := by
  rw [fb_fr, fb_fr] at e
  have := fr_inj hb w.reverse w'.reverse (fun l hl => h l (List.mem_reverse.mp hl)) (fun l hl => h' l (List.mem_reverse.mp hl)) e
  have h2 := congrArg List.reverse this
  rwa [List.reverse_reverse, List.reverse_reverse] at h2
theorem fr_lt {b : Nat} (hb : 27 ≤ b) : ∀ w, lets w → fr b w < b ^ w.length
  | [], _ => by show 0 < b ^ 0; rw [Nat.pow_zero]; omega
  | l :: w, h => by
    have h1 := h l (List.mem_cons_self ..)
    have ih := fr_lt hb w (fun x hx => h x (List.mem_cons_of_mem _ hx))
    show b * fr b w + l < b ^ (w.length + 1)
    rw [Nat.pow_succ]
    have : b * (fr b w + 1) ≤ b * b ^ w.length := Nat.mul_le_mul_left _ ih
    rw [Nat.mul_add, Nat.mul_one] at this
    rw [Nat.mul_comm (b ^ w.length)]
    omega
theorem fb_lt {b : Nat} (hb : 27 ≤ b) {w : List Nat} (h : lets w) : fb b w < b ^ w.length := by
  rw [fb_fr]
  have := fr_lt hb w.reverse (fun l hl => h l (List.mem_reverse.mp hl))
  rwa [List.length_reverse] at this
theorem e5_fb (w : List Nat) : e5 w = fb 32 w := rfl
theorem e27_fb (w : List Nat) : e27 w = fb 27 w := rfl
theorem e5_lt {w : List Nat} (h : okw w) : e5 w < 2 ^ 30 := Nat.lt_of_lt_of_le (fb_lt (b := 32) (by omega) h.2.2) (by
  have : (32 : Nat) ^ w.length ≤ 32 ^ 6 := Nat.pow_le_pow_right (by omega) h.2.1
  exact Nat.le_trans this (by decide))
theorem e27_lt {w : List Nat} (h : okw w) : e27 w < 2 ^ 30 := Nat.lt_of_lt_of_le (fb_lt (b := 27) (by omega) h.2.2) (by
  have : (27 : Nat) ^ w.length ≤ 27 ^ 6 := Nat.pow_le_pow_right (by omega) h.2.1
  exact Nat.le_trans this (by decide))
theorem e5_pos {w : List Nat} (h : okw w) : 1 ≤ e5 w := by
  rw [e5_fb]
  rcases Nat.eq_zero_or_pos (fb 32 w) with z | z
  · exact absurd (fb_inj (b := 32) (by omega) h.2.2 (w' := []) (fun l hl => absurd hl (List.not_mem_nil)) z) h.1
  · exact z
theorem NM_iff {x y x' y' : Int32} (h : NM x y) (h' : NM x' y') : x = x' ↔ y = y' := by
  obtain ⟨w, hw, rfl, rfl⟩ := h
  obtain ⟨w', hw', rfl, rfl⟩ := h'
  have b1 := e5_lt hw
  have b2 := e5_lt hw'
  have b3 := e27_lt hw
  have b4 := e27_lt hw'
  rw [nI_eq (by omega) (by omega), nI_eq (by omega) (by omega), e5_fb, e5_fb, e27_fb, e27_fb]
  constructor
  · intro e; rw [fb_inj (by omega) hw.2.2 hw'.2.2 e]
  · intro e; rw [fb_inj (by omega) hw.2.2 hw'.2.2 e]
theorem NM_0 {x y : Int32} (h : NM x y) : x ≠ 0 := by
  obtain ⟨w, hw, rfl, rfl⟩ := h
  exact ne_0 (e5_pos hw) (by have := e5_lt hw; omega)
/-- the text -/
def TX (μ ν : Mem) (B : Nat → Nat) (L : Nat) : Prop := L ≤ 800 ∧ μ 11 0 1 = nI L ∧ ν 13 0 9 = nI L ∧ ∀ i, i < L → 1 ≤ B i ∧ B i ≤ 255 ∧ μ 20 0 i = nI (B i) ∧ ν 46 0 i = nI (B i)
theorem TXT.tx {μ ν : Mem} {L : Nat} (h : TXT μ ν L) : ∃ B, TX μ ν B L := by
  obtain ⟨h1, h2, h3, h4⟩ := h
  refine ⟨fun i => (μ 20 0 i).toNatClampNeg, h1, h2, h3, fun i hi => ?_⟩
  obtain ⟨b, b1, b2, b3, b4⟩ := h4 i hi
  have e : (μ 20 0 i).toNatClampNeg = b := by rw [b3, nI_clamp (by omega)]
  show 1 ≤ (μ 20 0 i).toNatClampNeg ∧ (μ 20 0 i).toNatClampNeg ≤ 255 ∧ μ 20 0 i = nI (μ 20 0 i).toNatClampNeg ∧ ν 46 0 i = nI (μ 20 0 i).toNatClampNeg
  rw [e]
  exact ⟨b1, b2, b3, b4⟩
theorem TX.txt {μ ν : Mem} {B : Nat → Nat} {L : Nat} (h : TX μ ν B L) : TXT μ ν L := ⟨h.1, h.2.1, h.2.2.1, fun i hi => ⟨B i, (h.2.2.2 i hi).1, (h.2.2.2 i hi).2.1, (h.2.2.2 i hi).2.2.1, (h.2.2.2 i hi).2.2.2⟩⟩
abbrev isL (b : Nat) : Prop := 97 ≤ b ∧ b ≤ 122
def wl (B : Nat → Nat) (f : Nat) : Nat → List Nat
  | 0 => []
  | k + 1 => wl B f k ++ [B (f + k) - 96]
theorem wl_len {B : Nat → Nat} {f : Nat} : ∀ {k : Nat}, (wl B f k).length = k
  | 0 => rfl
  | k + 1 => by
    unfold wl
    rw [List.length_append, wl_len]
    rfl
theorem wl_lets {B : Nat → Nat} {f : Nat} : ∀ {k : Nat}, (∀ i, i < k → isL (B (f + i))) → lets (wl B f k)
  | 0, _ => fun l hl => absurd hl (List.not_mem_nil)
  | k + 1, h => fun l hl => by
    unfold wl at hl
    rcases List.mem_append.mp hl with q | q
    · exact wl_lets (fun i hi => h i (by omega)) l q
    · obtain rfl := List.mem_singleton.mp q
      have := h k (by omega)
      unfold isL at this
      omega
theorem wl_ok {B : Nat → Nat} {f k : Nat} (h : ∀ i, i < k → isL (B (f + i))) (h1 : 1 ≤ k) (h6 : k ≤ 6) : okw (wl B f k) := ⟨fun z => by have := wl_len (B := B) (f := f) (k := k); rw [z] at this; simp at this; omega, by rw [wl_len]; exact h6, wl_lets h⟩
theorem sh5 {c l : Nat} (hc : c < 2 ^ 25) (hl : l < 32) : (nI c <<< (5 &&& 31)) ||| nI l = nI (32 * c + l) := by
  apply Int32.toBitVec_inj.mp
  have e : ((nI c <<< (5 &&& 31)) ||| nI l).toBitVec = (BitVec.ofNat 32 c <<< 5) ||| BitVec.ofNat 32 l := rfl
  rw [e, nI_bv]
  apply BitVec.eq_of_toNat_eq
  rw [BitVec.toNat_or, BitVec.toNat_shiftLeft, BitVec.toNat_ofNat, BitVec.toNat_ofNat, BitVec.toNat_ofNat, Nat.mod_eq_of_lt (show c < 2 ^ 32 by omega), Nat.mod_eq_of_lt (show l < 2 ^ 32 by omega), Nat.mod_eq_of_lt (show 32 * c + l < 2 ^ 32 by omega)]
  have h1 : c <<< 5 = 32 * c := by rw [Nat.shiftLeft_eq]; omega
  rw [h1, Nat.mod_eq_of_lt (by omega)]
  have h2 := Nat.shiftLeft_add_eq_or_of_lt (i := 5) (b := l) (by omega) c
  rw [h1] at h2
  exact h2.symm
section Names
variable {μ ν : Mem} {B : Nat → Nat} {L : Nat}
theorem C_at (h : TX μ ν B L) {i : Nat} (hi : i < 2 ^ 31) : f_Text_at (nI i) μ = some (if i < L then nI (B i) else -1) := by
  unfold f_Text_at
  rw [if_neg (nI_pos hi), h.2.1]
  have := h.1
  by_cases c : i < L
  · rw [if_neg (nI_ge c (by omega)), if_pos c, chk_of (inb_of (by omega) (by omega)), nI_clamp hi, (h.2.2.2 i c).2.2.1]
  · rw [if_pos (nI_le (by omega) hi), if_neg c]
theorem C_codeOf (h : TX μ ν B L) {f k : Nat} (hk : f + k ≤ L) (h1 : 1 ≤ k) (h6 : k ≤ 6) (hl : ∀ i, i < k → isL (B (f + i))) : f_Names_codeOf (nI f) (nI (f + k)) μ = some (nI (e5 (wl B f k))) := by
  have hL := h.1
  unfold f_Names_codeOf
  rw [show nI (f + k) - nI f = nI k by rw [nI_sub (by omega), Nat.add_sub_cancel_left], if_neg (nl_1 h1 (by omega)), if_pos (le_6 h6)]
  refine it_fr (f := fun s : Int32 × Int32 => s_Names_codeOf_22 (nI (f + k)) s.1 s.2 μ) (s := (0, nI f)) (fun i q => q = (nI (e5 (wl B f i)), nI (f + i))) (fun q => q = .inl (nI (e5 (wl B f k)))) k 0 (by omega) (by omega) rfl ?_ ?_ (fun r q1 q2 => by rw [q1, bind_s, q2]; rfl)
  · rintro i hi _ rfl
    show ∃ s', s_Names_codeOf_22 (nI (f + k)) (nI (e5 (wl B f i))) (nI (f + i)) μ = some (.inl s') ∧ _
    unfold s_Names_codeOf_22
    have hb := hl i hi
    have hw : e5 (wl B f i) < 2 ^ 25 := by
      have := fb_lt (b := 32) (by omega) (wl_lets (B := B) (f := f) (k := i) (fun i' hi' => hl i' (by omega)))
      rw [wl_len] at this
      have h2 : (32 : Nat) ^ i ≤ 32 ^ 5 := Nat.pow_le_pow_right (by omega) (by omega)
      rw [e5_fb]
      exact Nat.lt_of_lt_of_le this (Nat.le_trans h2 (by decide))
    unfold isL at hb
    rw [if_neg (nI_ge (by omega) (by omega)), C_at h (by omega), bind_s, if_pos (show f + i < L by omega), if_neg (show ¬ nI (B (f + i)) < 97 from nI_nlt (b := 97) (by omega) (by omega)), if_pos (show nI (B (f + i)) ≤ 122 from nI_le (b := 122) (by omega) (by omega)), show nI (B (f + i)) - 97 + 1 = nI (B (f + i) - 96) by rw [show (97 : Int32) = nI 97 from rfl, nI_sub (by omega), nI_1]; congr 1; omega, sh5 hw (by omega), nm_9, nI_1]
    refine ⟨_, rfl, ?_⟩
    show _ = (nI (e5 (wl B f i ++ [B (f + i) - 96])), _)
    rw [e5_fb, e5_fb, fb_snoc]
    rfl
  · rintro _ rfl
    show ∃ r, s_Names_codeOf_22 (nI (f + k)) (nI (e5 (wl B f k))) (nI (f + k)) μ = some (.inr r) ∧ _
    unfold s_Names_codeOf_22
    rw [if_pos (nI_le (Nat.le_refl _) (by omega))]
    exact ⟨_, rfl, rfl⟩
theorem R_packed (h : TX μ ν B L) {f k : Nat} (hk : f + k ≤ L) (h6 : k ≤ 6) (hl : ∀ i, i < k → isL (B (f + i))) : f_R_packed (nI f) (nI k) ν = some (nI (e27 (wl B f k))) := by
  have hL := h.1
  unfold f_R_packed
  refine it_fr (f := fun s : Int32 × Int32 => s_R_packed_5 (nI f) (nI k) s.1 s.2 ν) (s := (0, 0)) (fun i q => q = (nI (e27 (wl B f i)), nI i)) (fun q => q = (nI (e27 (wl B f k)))) k 0 (by omega) (by omega) rfl ?_ ?_ (fun r q1 q2 => by rw [q1, bind_s, q2])
  · rintro i hi _ rfl
    show ∃ s', s_R_packed_5 (nI f) (nI k) (nI (e27 (wl B f i))) (nI i) ν = some (.inl s') ∧ _
    unfold s_R_packed_5
    have hb := hl i hi
    unfold isL at hb
    rw [if_neg (nI_ge hi (by omega)), nI_add, chk_of (inb_of (by omega) (by omega)), nI_clamp (by omega), (h.2.2.2 (f + i) (by omega)).2.2.2, nm_9, nI_1, show (27 : Int32) = nI 27 from rfl, pk_mul, nI_add, show (96 : Int32) = nI 96 from rfl, nI_sub (by omega)]
    refine ⟨_, rfl, ?_⟩
    show _ = (nI (e27 (wl B f i ++ [B (f + i) - 96])), _)
    rw [e27_fb, e27_fb, fb_snoc]
    congr 2
    omega
  · rintro _ rfl
    show ∃ r, s_R_packed_5 (nI f) (nI k) (nI (e27 (wl B f k))) (nI k) ν = some (.inr r) ∧ _
    unfold s_R_packed_5
    rw [if_pos (nI_le (Nat.le_refl _) (by omega))]
    exact ⟨_, rfl, rfl⟩
theorem C_find {j m : Nat} {x : Int32} (h : μ 3 j 1 = nI m) (hm : m ≤ 8) : f_Names_find j x μ = some (fdI (fun k => decide (μ 23 j k = x)) 0 m) := by
  unfold f_Names_find
  refine it_fd _ m (by omega) (fun i hi => ?_) ?_
  · unfold s_Names_find_2
    rw [h, if_neg (nI_ge hi (by omega)), chk_of (inb_of (by omega) (by omega)), nI_clamp (by omega), nI_1]
    by_cases c : μ 23 j i = x
    · rw [if_pos c, if_pos (decide_eq_true c)]
    · rw [if_neg c, if_neg (by rw [decide_eq_true_eq]; exact c)]
  · unfold s_Names_find_2
    rw [h, if_pos (nI_le (Nat.le_refl _) (by omega))]
theorem R_named {b st m : Nat} {x : Int32} (hm : m ≤ 8) (hst : 1 ≤ st) (hb : b + 8 * st ≤ 524) : f_R_named x (nI b) (nI st) (nI m) ν = some (fdI (fun k => decide (ν 40 0 (b + st * k) = x)) 0 m) := by
  unfold f_R_named
  refine it_fd _ m (by omega) (fun i hi => ?_) ?_
  · unfold s_R_named_3
    have hle : st * i ≤ st * 8 := Nat.mul_le_mul_left _ (by omega)
    have hz : b + st * i < 524 := by
      have : st * i < st * 8 := Nat.mul_lt_mul_of_pos_left (by omega) hst
      omega
    rw [if_neg (nI_ge hi (by omega)), pk_mul, nI_add, Int32.add_zero, chk_of (inb_of hz (by omega)), nI_clamp (by omega), nI_1]
    by_cases c : ν 40 0 (b + st * i) = x
    · rw [if_pos c, if_pos (decide_eq_true c)]
    · rw [if_neg c, if_neg (by rw [decide_eq_true_eq]; exact c)]
  · unfold s_R_named_3
    rw [if_pos (nI_le (Nat.le_refl _) (by omega))]
/-- class and model find the same -/
theorem same_find {c a : Nat → Int32} {m : Nat} {x y : Int32} (h : ∀ k, k < m → NM (c k) (a k)) (hx : NM x y) : fdI (fun k => decide (c k = x)) 0 m = fdI (fun k => decide (a k = y)) 0 m := by
  refine fdI_congr (fun k _ hk => ?_)
  have := NM_iff (h k (by omega)) hx
  exact decide_eq_decide.mpr this
theorem no_find {c a : Nat → Int32} {m : Nat} (h : ∀ k, k < m → NM (c k) (a k)) : fdI (fun k => decide (c k = 0)) 0 m = -1 := by
  rcases fdI_sp (P := fun k => decide (c k = 0)) (n := m) (i := 0) with ⟨e, -⟩ | ⟨k, -, hk, e, -, -⟩
  · exact e
  · exact absurd (of_decide_eq_true e) (NM_0 (h k (by omega)))
theorem T_findCustomer (hG : GR μ ν) : Rd0 μ ν (f_P_findCustomer μ) (f_R_findCustomer ν) := by
  have hG0 := hG
  obtain ⟨s, E, P, C, O, n, w, t, dd, h, π, L, H⟩ := hG
  obtain ⟨e1, e2⟩ := H.s12
  obtain ⟨B, hB⟩ := (H.2.2.2.2.2.2.2.1 : TXT μ ν L).tx
  obtain ⟨hs, hE, hP, hC, hO, -, -, ⟨t8, a8⟩, -, -, -, -, -, -, -, hN, -⟩ := H.2.2.1
  have hL := hB.1
  have n9 : (st3 ν 13 0 7 0) 13 0 9 = nI L := by rw [st3_ua, ua_N (by omega)]; exact hB.2.2.1
  have n40 : (st3 ν 13 0 7 0) 40 = ν 40 := st3_K (by omega)
  have hB' : TX μ (st3 ν 13 0 7 0) B L := ⟨hB.1, hB.2.1, n9, fun i hi => by rw [st3_K (show 46 ≠ 13 by omega)]; exact hB.2.2.2 i hi⟩
  have hN' : ∀ c, c < C → NM (μ 23 (3 * s + 2) c) (ν 40 0 (28 + 3 * c)) := fun c hc => (hN c hc).1
  have eC : ∀ x y, f_Names_codeOf 0 (nI L) μ = some x → fdI (fun k => decide (μ 23 (3 * s + 2) k = x)) 0 C = y → f_P_findCustomer μ = some y := fun x y h1 h2 => by
    unfold f_P_findCustomer f_Text_size
    rw [e1, e2, chk_t, bind_s, hB.2.1, h1, bind_s, C_find t8 hC, bind_s, h2]
  by_cases c : 1 ≤ L ∧ L ≤ 6
  · have ew : wi (nI L) 1 6 = 1 := by unfold wi; rw [if_neg (nl_1 c.1 (by omega)), if_neg (ng_6 c.2)]
    have eR : f_R_findCustomer ν = (it (fun (s : Int32) => s_R_findCustomer_22 s (st3 ν 13 0 7 0)) LIM 0).bind (fun q3 => els q3 (fun r4 => ((f_R_packed 0 (nI L) (st3 ν 13 0 7 0))).bind (fun r5 => ((f_R_customerNamed r5 (st3 ν 13 0 7 0))).bind (fun r6 => some ((r6, (st3 ν 13 0 7 0)))))) (fun v => some v)) := by
      unfold f_R_findCustomer
      rw [nm_9, n9, R_within, bind_s, ew, if_neg (by decide)]
    have stp : ∀ i, i < L → s_R_findCustomer_22 (nI i) (st3 ν 13 0 7 0) = some (if isL (B i) then .inl (nI (i + 1)) else .inr (.inr (-1, st3 ν 13 0 7 0))) := fun i hi => by
      unfold s_R_findCustomer_22
      have hb := hB'.2.2.2 i hi
      rw [n9, if_neg (nI_ge hi (by omega)), chk_of (inb_of (by omega) (by omega)), nI_clamp (by omega), hb.2.2.2, R_within, bind_s, nI_1]
      by_cases cl : isL (B i)
      · rw [show wi (nI (B i)) 97 122 = 1 by unfold wi; rw [if_neg (show ¬ nI (B i) < 97 from nI_nlt (b := 97) cl.1 (by omega)), if_neg (show ¬ (122 : Int32) < nI (B i) from nI_nlt (a := 122) cl.2 (by omega))], if_neg (by decide), if_pos cl]
      · rw [show wi (nI (B i)) 97 122 = 0 by
          unfold wi
          by_cases c1 : B i < 97
          · rw [if_pos (show nI (B i) < 97 from nI_lt (b := 97) c1 (by omega))]
          · rw [if_neg (show ¬ nI (B i) < 97 from nI_nlt (b := 97) (by omega) (by omega)), if_pos (show (122 : Int32) < nI (B i) from nI_lt (a := 122) (by apply Classical.byContradiction; intro z; exact cl ⟨by omega, by omega⟩) (by omega))], if_pos rfl, if_neg cl]
    by_cases all : ∀ i, i < L → isL (B i)
    · have lp : it (fun (s : Int32) => s_R_findCustomer_22 s (st3 ν 13 0 7 0)) LIM 0 = some (.inl ()) := by
        refine it_fr (f := fun (s : Int32) => s_R_findCustomer_22 s (st3 ν 13 0 7 0)) (s := 0) (fun i q => q = nI i) (fun q => q = .inl ()) L 0 (by omega) (by omega) rfl ?_ ?_ (fun r q1 q2 => by rw [q1, q2])
        · rintro i hi _ rfl
          show ∃ s', s_R_findCustomer_22 (nI i) (st3 ν 13 0 7 0) = some (.inl s') ∧ _
          rw [stp i hi, if_pos (all i hi)]
          exact ⟨_, rfl, rfl⟩
        · rintro _ rfl
          show ∃ r, s_R_findCustomer_22 (nI L) (st3 ν 13 0 7 0) = some (.inr r) ∧ _
          unfold s_R_findCustomer_22
          rw [n9, if_pos (nI_le (Nat.le_refl _) (by omega))]
          exact ⟨_, rfl, rfl⟩
      have all' : ∀ i, i < L → isL (B (0 + i)) := fun i hi => by rw [Nat.zero_add]; exact all i hi
      have q1 := C_codeOf hB (f := 0) (k := L) (by omega) c.1 c.2 all'
      have q2 := R_packed hB' (f := 0) (k := L) (by omega) c.2 all'
      rw [Nat.zero_add] at q1
      have hw := wl_ok (B := B) (f := 0) (k := L) all' c.1 c.2
      refine rd_0 hG0 (r := fdI (fun k => decide (ν 40 0 (28 + 3 * k) = nI (e27 (wl B 0 L)))) 0 C) (eC _ _ q1 (same_find hN' ⟨_, hw, rfl, rfl⟩)) ?_
      replace q2 : f_R_packed 0 (nI L) (st3 ν 13 0 7 0) = some (nI (e27 (wl B 0 L))) := q2
      rw [eR, lp, bind_s, els_l, q2, bind_s]
      unfold f_R_customerNamed
      rw [ib_8_524, chk_t, tn_8, n40, a8, show (28 : Int32) = nI 28 from rfl, show (3 : Int32) = nI 3 from rfl, R_named hC (by omega) (by omega), bind_s, bind_s, n40]
    · obtain ⟨i0, h0⟩ := Classical.not_forall.mp all
      have hi0 : i0 < L ∧ ¬ isL (B i0) := ⟨Classical.byContradiction (fun z => h0 (fun q => absurd q z)), fun q => h0 (fun _ => q)⟩
      have lp : it (fun (s : Int32) => s_R_findCustomer_22 s (st3 ν 13 0 7 0)) LIM 0 = some (.inr (-1, st3 ν 13 0 7 0)) := by
        have : ∀ k i, i + k = i0 → (∀ z, z < i → isL (B z)) → ∃ m, m ≤ k + 1 ∧ it (fun (s : Int32) => s_R_findCustomer_22 s (st3 ν 13 0 7 0)) m (nI i) = some (.inr (-1, st3 ν 13 0 7 0)) := by
          intro k
          induction k with
          | zero =>
            intro i hi _
            obtain rfl : i = i0 := by omega
            refine ⟨0 + 1, by omega, it_r ?_⟩
            show s_R_findCustomer_22 (nI i) (st3 ν 13 0 7 0) = _
            rw [stp i hi0.1, if_neg hi0.2]
          | succ k ih =>
            intro i hi hz
            by_cases cl : isL (B i)
            · obtain ⟨m, hm, e⟩ := ih (i + 1) (by omega) (fun z hz' => by
                by_cases e : z = i
                · subst e; exact cl
                · exact hz z (by omega))
              refine ⟨m + 1, by omega, it_l (s' := nI (i + 1)) ?_ e⟩
              show s_R_findCustomer_22 (nI i) (st3 ν 13 0 7 0) = _
              rw [stp i (by omega), if_pos cl]
            · refine ⟨0 + 1, by omega, it_r ?_⟩
              show s_R_findCustomer_22 (nI i) (st3 ν 13 0 7 0) = _
              rw [stp i (by omega), if_neg cl]
        obtain ⟨m, hm, e⟩ := this i0 0 (by omega) (fun z hz => by omega)
        exact it_mono (show m ≤ 3000000 by omega) e
      have q1 : f_Names_codeOf 0 (nI L) μ = some 0 := by
        unfold f_Names_codeOf
        rw [Int32.sub_zero, if_neg (nl_1 c.1 (by omega)), if_pos (le_6 c.2)]
        have stpC : ∀ i x, i < L → (isL (B i) ∧ ∃ y, s_Names_codeOf_22 (nI L) x (nI i) μ = some (.inl (y, nI (i + 1)))) ∨ (¬ isL (B i) ∧ s_Names_codeOf_22 (nI L) x (nI i) μ = some (.inr (.inr 0))) := fun i x hi => by
          unfold s_Names_codeOf_22
          have hb := hB.2.2.2 i hi
          rw [if_neg (nI_ge hi (by omega)), C_at hB (by omega), bind_s, if_pos hi]
          by_cases cl : isL (B i)
          · left
            rw [if_neg (show ¬ nI (B i) < 97 from nI_nlt (b := 97) cl.1 (by omega)), if_pos (show nI (B i) ≤ 122 from nI_le (b := 122) cl.2 (by omega)), nm_9, nI_1]
            exact ⟨cl, _, rfl⟩
          · right
            refine ⟨cl, ?_⟩
            by_cases c1 : B i < 97
            · rw [if_pos (show nI (B i) < 97 from nI_lt (b := 97) c1 (by omega))]
            · rw [if_neg (show ¬ nI (B i) < 97 from nI_nlt (b := 97) (by omega) (by omega)), if_neg (show ¬ nI (B i) ≤ 122 from nI_ge (a := 122) (by apply Classical.byContradiction; intro z; exact cl ⟨by omega, by omega⟩) (by omega))]
        have : ∀ k i x, i + k = i0 → ∃ m, m ≤ k + 1 ∧ it (fun (s : Int32 × Int32) => s_Names_codeOf_22 (nI L) s.1 s.2 μ) m (x, nI i) = some (.inr 0) := by
          intro k
          induction k with
          | zero =>
            intro i x hi
            obtain rfl : i = i0 := by omega
            refine ⟨0 + 1, by omega, it_r ?_⟩
            show s_Names_codeOf_22 (nI L) x (nI i) μ = _
            rcases stpC i x hi0.1 with ⟨z, -⟩ | ⟨-, z⟩
            · exact absurd z hi0.2
            · exact z
          | succ k ih =>
            intro i x hi
            rcases stpC i x (by omega) with ⟨-, y, z⟩ | ⟨-, z⟩
            · obtain ⟨m, hm, e⟩ := ih (i + 1) y (by omega)
              exact ⟨m + 1, by omega, it_l (s' := (y, nI (i + 1))) z e⟩
            · exact ⟨0 + 1, by omega, it_r z⟩
        obtain ⟨m, hm, e⟩ := this i0 0 0 (by omega)
        have e' : it (fun (s : Int32 × Int32) => s_Names_codeOf_22 (nI L) s.1 s.2 μ) LIM (0, 0) = some (.inr 0) := it_mono (show m ≤ 3000000 by omega) e
        rw [e', bind_s]
        rfl
      refine rd_0 hG0 (r := -1) (eC _ _ q1 (no_find hN')) ?_
      rw [eR, lp, bind_s]
      rfl
  · have q1 : f_Names_codeOf 0 (nI L) μ = some 0 := by
      unfold f_Names_codeOf
      rw [Int32.sub_zero]
      by_cases c1 : L < 1
      · rw [if_pos (ll_1 c1)]
      · rw [if_neg (nl_1 (by omega) (by omega)), if_neg (nle_6 (by omega) (by omega))]
    have ew : wi (nI L) 1 6 = 0 := by
      unfold wi
      by_cases c1 : L < 1
      · rw [if_pos (ll_1 c1)]
      · rw [if_neg (nl_1 (by omega) (by omega)), if_pos (gg_6 (by omega) (by omega))]
    refine rd_0 hG0 (r := -1) (eC _ _ q1 (no_find hN')) ?_
    unfold f_R_findCustomer
    rw [nm_9, n9, R_within, bind_s, ew, if_pos rfl]
end Names

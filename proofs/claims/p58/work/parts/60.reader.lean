/-! The class's reader over a text that is known. -/
def TX (μ ν : Mem) (B : Nat → Nat) (L : Nat) : Prop := L ≤ 800 ∧ μ 11 0 1 = nI L ∧ ν = ν ∧ ∀ i, i < L → 1 ≤ B i ∧ B i ≤ 255 ∧ μ 20 0 i = nI (B i) ∧ ν = ν
section Names0
variable {μ ν : Mem} {B : Nat → Nat} {L : Nat}
theorem C_at (h : TX μ ν B L) {i : Nat} (hi : i < 2 ^ 31) : f_Text_at (nI i) μ = some (if i < L then nI (B i) else -1) := by
  unfold f_Text_at
  rw [if_neg (nI_pos hi), h.2.1]
  have := h.1
  by_cases c : i < L
  · rw [if_neg (nI_ge c (by omega)), if_pos c, chk_of (inb_of (by omega) (by omega)), nI_clamp hi, (h.2.2.2 i c).2.2.1]
  · rw [if_pos (nI_le (by omega) hi), if_neg c]
theorem C_codeOf (h : TX μ ν B L) {f k : Nat} (hk : f + k ≤ L) (h1 : 1 ≤ k) (h6 : k ≤ 6) (hl : ∀ i, i < k → isL (B (f + i))) : f_Names_codeOf (nI f) (nI (f + k)) μ = some (nI (e5 (wl B f k))) := by
  have hL := h.1
  unfold f_Names_codeOf
  rw [show nI (f + k) - nI f = nI k by rw [nI_sub (by omega), Nat.add_sub_cancel_left], if_neg (nl_1 h1 (by omega)), if_pos (le_6 h6)]
  refine it_fr (f := fun s : Int32 × Int32 => s_Names_codeOf_22 (nI (f + k)) s.1 s.2 μ) (s := (0, nI f)) (fun i q => q = (nI (e5 (wl B f i)), nI (f + i))) (fun q => q = .inl (nI (e5 (wl B f k)))) k 0 (by omega) (by omega) rfl ?_ ?_ (fun r q1 q2 => by rw [q1, bind_s, q2]; rfl)
  · rintro i hi _ rfl
    show ∃ s', s_Names_codeOf_22 (nI (f + k)) (nI (e5 (wl B f i))) (nI (f + i)) μ = some (.inl s') ∧ _
    unfold s_Names_codeOf_22
    have hb := hl i hi
    have hw : e5 (wl B f i) < 2 ^ 25 := by
      have := fb_lt (b := 32) (by omega) (wl_lets (B := B) (f := f) (k := i) (fun i' hi' => hl i' (by omega)))
      rw [wl_len] at this
      have h2 : (32 : Nat) ^ i ≤ 32 ^ 5 := Nat.pow_le_pow_right (by omega) (by omega)
      rw [e5_fb]
      exact Nat.lt_of_lt_of_le this (Nat.le_trans h2 (by decide))
    unfold isL at hb
    rw [if_neg (nI_ge (by omega) (by omega)), C_at h (by omega), bind_s, if_pos (show f + i < L by omega), if_neg (show ¬ nI (B (f + i)) < 97 from nI_nlt (b := 97) (by omega) (by omega)), if_pos (show nI (B (f + i)) ≤ 122 from nI_le (b := 122) (by omega) (by omega)), show nI (B (f + i)) - 97 + 1 = nI (B (f + i) - 96) by rw [show (97 : Int32) = nI 97 from rfl, nI_sub (by omega), nI_1]; congr 1; omega, sh5 hw (by omega), nm_9, nI_1]
    refine ⟨_, rfl, ?_⟩
    show _ = (nI (e5 (wl B f i ++ [B (f + i) - 96])), _)
    rw [e5_fb, e5_fb, fb_snoc]
    rfl
  · rintro _ rfl
    show ∃ r, s_Names_codeOf_22 (nI (f + k)) (nI (e5 (wl B f k))) (nI (f + k)) μ = some (.inr r) ∧ _
    unfold s_Names_codeOf_22
    rw [if_pos (nI_le (Nat.le_refl _) (by omega))]
    exact ⟨_, rfl, rfl⟩
theorem C_find {j m : Nat} {x : Int32} (h : μ 3 j 1 = nI m) (hm : m ≤ 8) : f_Names_find j x μ = some (fdI (fun k => decide (μ 23 j k = x)) 0 m) := by
  unfold f_Names_find
  refine it_fd _ m (by omega) (fun i hi => ?_) ?_
  · unfold s_Names_find_2
    rw [h, if_neg (nI_ge hi (by omega)), chk_of (inb_of (by omega) (by omega)), nI_clamp (by omega), nI_1]
    by_cases c : μ 23 j i = x
    · rw [if_pos c, if_pos (decide_eq_true c)]
    · rw [if_neg c, if_neg (by rw [decide_eq_true_eq]; exact c)]
  · unfold s_Names_find_2
    rw [h, if_pos (nI_le (Nat.le_refl _) (by omega))]
end Names0
/-- on while P -/
def runP (P : Nat → Bool) : Nat → Nat → Nat
  | 0, i => i
  | k + 1, i => if P i = true then runP P k (i + 1) else i
def adv (P : Nat → Bool) (L i : Nat) : Nat := runP P (L - i) i
theorem adv_step {P : Nat → Bool} {L i : Nat} (h : i < L) (hp : P i = true) : adv P L i = adv P L (i + 1) := by
  unfold adv
  rw [show L - i = (L - (i + 1)) + 1 by omega]
  show (if P i = true then _ else _) = _
  rw [if_pos hp]
theorem adv_stop {P : Nat → Bool} {L i : Nat} (h : L ≤ i ∨ P i = false) : adv P L i = i := by
  unfold adv
  rcases h with h | h
  · rw [show L - i = 0 by omega]; rfl
  · cases hk : L - i with
    | zero => rfl
    | succ k =>
      show (if P i = true then _ else _) = _
      rw [h, if_neg (by decide)]
theorem adv_ge {P : Nat → Bool} {L : Nat} : ∀ {k i : Nat}, L - i = k → i ≤ adv P L i
  | 0, i, h => by rw [adv_stop (Or.inl (by omega))]; exact Nat.le_refl _
  | k + 1, i, h => by
    cases hp : P i with
    | true => rw [adv_step (by omega) hp]; exact Nat.le_trans (by omega) (adv_ge (k := k) (i := i + 1) (by omega))
    | false => rw [adv_stop (Or.inr hp)]; exact Nat.le_refl _
theorem adv_le {P : Nat → Bool} {L : Nat} : ∀ {k i : Nat}, L - i = k → i ≤ L → adv P L i ≤ L
  | 0, i, h, hi => by rw [adv_stop (Or.inl (by omega))]; exact hi
  | k + 1, i, h, hi => by
    cases hp : P i with
    | true => rw [adv_step (by omega) hp]; exact adv_le (k := k) (i := i + 1) (by omega) (by omega)
    | false => rw [adv_stop (Or.inr hp)]; exact hi
/-- a loop that goes on while P -/
theorem it_advK {S R : Type} {f : S → Option (S ⊕ R)} (P : Nat → Bool) (L : Nat) (st : Nat → S) (en : Nat → R) : ∀ (k i : Nat), L - i = k → (∀ z, i ≤ z → z ≤ L → z = i ∨ z < L ∨ z = L → f (st z) = some (if z < L ∧ P z = true then .inl (st (z + 1)) else .inr (en z))) → i ≤ L → it f (k + 1) (st i) = some (en (adv P L i)) := by
  intro k
  induction k with
  | zero =>
    intro i hk hf hi
    refine it_r ?_
    rw [hf i (Nat.le_refl _) hi (Or.inl rfl), if_neg (by omega), adv_stop (Or.inl (by omega))]
  | succ k ih =>
    intro i hk hf hi
    cases hp : P i with
    | true =>
      refine it_l (s' := st (i + 1)) ?_ ?_
      · rw [hf i (Nat.le_refl _) hi (Or.inl rfl), if_pos ⟨by omega, hp⟩]
      · rw [adv_step (by omega) hp]
        exact ih (i + 1) (by omega) (fun z h1 h2 h3 => hf z (by omega) h2 (by omega)) (by omega)
    | false =>
      refine it_mono (show 0 + 1 ≤ k + 1 + 1 by omega) (it_r ?_)
      rw [hf i (Nat.le_refl _) hi (Or.inl rfl), if_neg (by rw [hp]; rintro ⟨-, z⟩; exact absurd z (by decide)), adv_stop (Or.inr hp)]
theorem it_adv {S R : Type} {f : S → Option (S ⊕ R)} (P : Nat → Bool) (L : Nat) (st : Nat → S) (en : Nat → R) {i : Nat} (hi : i ≤ L) (hL : L ≤ 1000) (hf : ∀ z, i ≤ z → z ≤ L → f (st z) = some (if z < L ∧ P z = true then .inl (st (z + 1)) else .inr (en z))) : it f LIM (st i) = some (en (adv P L i)) :=
  it_mono (show L - i + 1 ≤ 3000000 by omega) (it_advK P L st en (L - i) i rfl (fun z h1 h2 _ => hf z h1 h2) hi)
abbrev isD (b : Nat) : Prop := 48 ≤ b ∧ b ≤ 57
def pB (B : Nat → Nat) (i : Nat) : Bool := decide (B i = 32) || decide (B i = 10)
def pL (B : Nat → Nat) (i : Nat) : Bool := decide (isL (B i))
def pD (B : Nat → Nat) (i : Nat) : Bool := decide (isD (B i))
/-- the kind of a byte in the class -/
def kO (b : Nat) : Int32 := if isL b then 1 else if isD b then 2 else if b = 59 ∨ b = 40 ∨ b = 41 then nI b else 3
section Token
variable {K : Nat} {μ ν : Mem} {B : Nat → Nat} {L b e : Nat}
theorem nIl {b k : Nat} (hb : b ≤ 255) (hk : k < 2 ^ 31) : (nI b = nI k ↔ b = k) := nI_eq (by omega) hk
theorem C_kindOf {b : Nat} (h1 : 1 ≤ b) (hb : b ≤ 255) : f_Reader_kindOf K (nI b) μ = some (kO b) := by
  have sg : (if nI b = 59 then some (nI b) else if nI b = 40 then some (nI b) else if nI b = 41 then some (nI b) else some 3 : Option Int32) = some (if b = 59 ∨ b = 40 ∨ b = 41 then nI b else 3) := by
    by_cases d1 : b = 59
    · rw [if_pos (show nI b = 59 from (nIl (k := 59) hb (by omega)).mpr d1), if_pos (Or.inl d1)]
    · rw [if_neg (show ¬ nI b = 59 from fun z => d1 ((nIl (k := 59) hb (by omega)).mp z))]
      by_cases d2 : b = 40
      · rw [if_pos (show nI b = 40 from (nIl (k := 40) hb (by omega)).mpr d2), if_pos (Or.inr (Or.inl d2))]
      · rw [if_neg (show ¬ nI b = 40 from fun z => d2 ((nIl (k := 40) hb (by omega)).mp z))]
        by_cases d3 : b = 41
        · rw [if_pos (show nI b = 41 from (nIl (k := 41) hb (by omega)).mpr d3), if_pos (Or.inr (Or.inr d3))]
        · rw [if_neg (show ¬ nI b = 41 from fun z => d3 ((nIl (k := 41) hb (by omega)).mp z)), if_neg (by omega)]
  have dg : (if nI b < 48 then (if nI b = 59 then some (nI b) else if nI b = 40 then some (nI b) else if nI b = 41 then some (nI b) else some 3) else (if (57 : Int32) < nI b then (if nI b = 59 then some (nI b) else if nI b = 40 then some (nI b) else if nI b = 41 then some (nI b) else some 3) else some 2) : Option Int32) = some (if isD b then 2 else if b = 59 ∨ b = 40 ∨ b = 41 then nI b else 3) := by
    rw [sg]
    by_cases c1 : b < 48
    · rw [if_pos (show nI b < 48 from nI_lt (b := 48) c1 (by omega)), if_neg (show ¬ isD b by unfold isD; omega)]
    · rw [if_neg (show ¬ nI b < 48 from nI_nlt (b := 48) (by omega) (by omega))]
      by_cases c2 : 57 < b
      · rw [if_pos (show (57 : Int32) < nI b from nI_lt (a := 57) c2 (by omega)), if_neg (show ¬ isD b by unfold isD; omega)]
      · rw [if_neg (show ¬ (57 : Int32) < nI b from nI_nlt (a := 57) (by omega) (by omega)), if_pos (show isD b by unfold isD; omega)]
  unfold f_Reader_kindOf kO
  rw [if_neg (ne_m1 (by omega)), dg]
  by_cases c1 : b < 97
  · rw [if_pos (show nI b < 97 from nI_lt (b := 97) c1 (by omega)), if_neg (show ¬ isL b by unfold isL; omega)]
  · rw [if_neg (show ¬ nI b < 97 from nI_nlt (b := 97) (by omega) (by omega))]
    by_cases c2 : 122 < b
    · rw [if_pos (show (122 : Int32) < nI b from nI_lt (a := 122) c2 (by omega)), if_neg (show ¬ isL b by unfold isL; omega)]
    · rw [if_neg (show ¬ (122 : Int32) < nI b from nI_nlt (a := 122) (by omega) (by omega)), if_pos (show isL b by unfold isL; omega)]
theorem kO_ne {b : Nat} (hb : b ≤ 255) : kO b ≠ 0 := by
  unfold kO
  split
  · decide
  · split
    · decide
    · split
      · rename_i h
        exact ne_0 (by omega) (by omega)
      · decide
theorem kO_1 {b : Nat} (hb : b ≤ 255) : kO b = 1 ↔ isL b := by
  unfold kO
  constructor
  · intro h
    split at h
    · assumption
    · split at h
      · exact absurd h (by decide)
      · split at h
        · rename_i q
          have := (nIl (k := 1) hb (by omega)).mp h
          omega
        · exact absurd h (by decide)
  · intro h; rw [if_pos h]
theorem kO_2 {b : Nat} (hb : b ≤ 255) : kO b = 2 ↔ isD b := by
  unfold kO
  constructor
  · intro h
    split at h
    · exact absurd h (by decide)
    · split at h
      · assumption
      · split at h
        · rename_i q
          have := (nIl (k := 2) hb (by omega)).mp h
          omega
        · exact absurd h (by decide)
  · intro h
    have h2 := h
    unfold isD at h2
    rw [if_neg (by unfold isL; omega), if_pos h]
theorem st3_st {K j f : Nat} {x y : Int32} {μ : Mem} : st3 (st3 μ K j f x) K j f y = st3 μ K j f y := by
  funext K' j' f'
  unfold st3
  split <;> rfl
def tkE (B : Nat → Nat) (L b : Nat) : Nat := if b < L then (if isL (B b) then adv (pL B) L (b + 1) else if isD (B b) then adv (pD B) L (b + 1) else b + 1) else b
def tkK (B : Nat → Nat) (L b : Nat) : Int32 := if b < L then kO (B b) else 0
theorem C_next (hK : K = 6 ∨ K = 8) (h : TX μ ν B L) (h3 : μ K 0 3 = nI e) (he : e ≤ L) : f_Reader_next K μ = some (st3 (st3 (st3 μ K 0 2 (nI (adv (pB B) L e))) K 0 1 (tkK B L (adv (pB B) L e))) K 0 3 (nI (tkE B L (adv (pB B) L e)))) := by
  have hL := h.1
  have hat : ∀ m : Mem, (∀ K', K' ≠ K → m K' = μ K') → ∀ i, i < 2 ^ 31 → f_Text_at (nI i) m = some (if i < L then nI (B i) else -1) := fun m hm i hi => by
    have : TX m ν B L := ⟨h.1, by rw [hm 11 (by omega)]; exact h.2.1, h.2.2.1, by rw [hm 20 (by omega)]; exact h.2.2.2⟩
    exact C_at this hi
  have hsz : ∀ m : Mem, (∀ K', K' ≠ K → m K' = μ K') → f_Text_size m = some (nI L) := fun m hm => by unfold f_Text_size; rw [hm 11 (by omega), h.2.1]
  have l1 : it (fun (s : Mem) => s_Reader_next_8 K s) LIM (st3 μ K 0 2 (nI e)) = some (st3 μ K 0 2 (nI (adv (pB B) L e))) := by
    refine it_adv (f := fun (s : Mem) => s_Reader_next_8 K s) (pB B) L (fun i => st3 μ K 0 2 (nI i)) (fun i => st3 μ K 0 2 (nI i)) he (by omega) (fun z h1 h2 => ?_)
    show s_Reader_next_8 K (st3 μ K 0 2 (nI z)) = _
    have hm : ∀ K', K' ≠ K → (st3 μ K 0 2 (nI z)) K' = μ K' := fun K' q => st3_K q
    unfold s_Reader_next_8
    rw [hsz _ hm, bind_s, st3_ua, ua_S]
    by_cases c : z < L
    · have hb := h.2.2.2 z c
      rw [if_neg (nI_ge c (by omega)), hat _ hm z (by omega), bind_s, if_pos c]
      unfold f_Reader_isBlank pB
      rw [nI_1, st3_st]
      by_cases d1 : B z = 32
      · rw [if_pos (show nI (B z) = 32 from (nIl (k := 32) hb.2.1 (by omega)).mpr d1), bind_s, if_neg (by decide), nm_9, if_pos ⟨c, by simp [d1]⟩]
      · rw [if_neg (show ¬ nI (B z) = 32 from fun q => d1 ((nIl (k := 32) hb.2.1 (by omega)).mp q))]
        by_cases d2 : B z = 10
        · rw [if_pos (show nI (B z) = 10 from (nIl (k := 10) hb.2.1 (by omega)).mpr d2), bind_s, if_neg (by decide), nm_9, if_pos ⟨c, by simp [d2]⟩]
        · rw [if_neg (show ¬ nI (B z) = 10 from fun q => d2 ((nIl (k := 10) hb.2.1 (by omega)).mp q)), bind_s, if_pos rfl, if_neg (by rintro ⟨-, q⟩; simp [d1, d2] at q)]
    · rw [if_pos (nI_le (by omega) (by omega)), if_neg (by rintro ⟨q, -⟩; exact c q)]
  have hb0 := adv_le (P := pB B) (L := L) (i := e) rfl he
  generalize hb' : adv (pB B) L e = b' at l1 hb0
  have hm2 : ∀ K', K' ≠ K → (st3 μ K 0 2 (nI b')) K' = μ K' := fun K' q => st3_K q
  unfold f_Reader_next
  rw [nm_9, h3, l1, bind_s, st3_ua, ua_S, hat _ hm2 b' (by omega), bind_s]
  have hkd : f_Reader_kindOf K (if b' < L then nI (B b') else -1) (st3 μ K 0 2 (nI b')) = some (tkK B L b') := by
    unfold tkK
    by_cases c : b' < L
    · have hb := h.2.2.2 b' c
      rw [if_pos c, if_pos c, C_kindOf hb.1 hb.2.1]
    · rw [if_neg c, if_neg c]; rfl
  have lp : ∀ (x : Int32) (P : Nat → Bool) (i : Nat), i ≤ L → (∀ z, z < L → (kO (B z) = x ↔ P z = true)) → it (fun (s : Mem) => s_Reader_next_110 K s) LIM (st3 (st3 (st3 μ K 0 2 (nI b')) K 0 1 x) K 0 3 (nI i)) = some (st3 (st3 (st3 μ K 0 2 (nI b')) K 0 1 x) K 0 3 (nI (adv P L i))) := fun x P i hi hP => by
    refine it_adv (f := fun (s : Mem) => s_Reader_next_110 K s) P L (fun i => st3 (st3 (st3 μ K 0 2 (nI b')) K 0 1 x) K 0 3 (nI i)) (fun i => st3 (st3 (st3 μ K 0 2 (nI b')) K 0 1 x) K 0 3 (nI i)) hi (by omega) (fun z h1 h2 => ?_)
    show s_Reader_next_110 K (st3 (st3 (st3 μ K 0 2 (nI b')) K 0 1 x) K 0 3 (nI z)) = _
    have hm : ∀ K', K' ≠ K → (st3 (st3 (st3 μ K 0 2 (nI b')) K 0 1 x) K 0 3 (nI z)) K' = μ K' := fun K' q => by rw [st3_K q, st3_K q, st3_K q]
    have e3 : (st3 (st3 (st3 μ K 0 2 (nI b')) K 0 1 x) K 0 3 (nI z)) K 0 3 = nI z := by rw [st3_ua, ua_S]
    have e1 : (st3 (st3 (st3 μ K 0 2 (nI b')) K 0 1 x) K 0 3 (nI z)) K 0 1 = x := by rw [st3_ua, ua_N (by omega), st3_ua, ua_S]
    unfold s_Reader_next_110
    rw [hsz _ hm, bind_s, e3, e1, nI_1, st3_st]
    by_cases c : z < L
    · have hb := h.2.2.2 z c
      rw [if_neg (nI_ge c (by omega)), hat _ hm z (by omega), bind_s, if_pos c, C_kindOf hb.1 hb.2.1, bind_s]
      by_cases d : kO (B z) = x
      · rw [if_pos d, nm_9, if_pos ⟨c, (hP z c).mp d⟩]
      · rw [if_neg d, if_neg (by rintro ⟨-, q⟩; exact d ((hP z c).mpr q))]
    · rw [if_pos (nI_le (by omega) (by omega)), if_neg (by rintro ⟨q, -⟩; exact c q)]
  have f1 : (st3 (st3 μ K 0 2 (nI b')) K 0 1 (tkK B L b')) K 0 1 = tkK B L b' := by rw [st3_ua, ua_S]
  have f2 : (st3 (st3 μ K 0 2 (nI b')) K 0 1 (tkK B L b')) K 0 2 = nI b' := by rw [st3_ua, ua_N (by omega), st3_ua, ua_S]
  have f3 : ∀ y, (st3 (st3 (st3 μ K 0 2 (nI b')) K 0 1 (tkK B L b')) K 0 3 y) K 0 1 = tkK B L b' := fun y => by rw [st3_ua, ua_N (by omega)]; exact f1
  rw [hkd, bind_s, nm_9, f1, f2]
  by_cases c : b' < L
  · have hb := h.2.2.2 b' c
    have ek : tkK B L b' = kO (B b') := if_pos c
    have ee : tkE B L b' = if isL (B b') then adv (pL B) L (b' + 1) else if isD (B b') then adv (pD B) L (b' + 1) else b' + 1 := if_pos c
    rw [if_neg (by rw [ek]; exact kO_ne hb.2.1), bind_s, nm_9, nI_1, f3, ek, ee]
    by_cases d1 : isL (B b')
    · have k1 := (kO_1 hb.2.1).mpr d1
      rw [k1, if_pos rfl, if_pos d1, lp 1 (pL B) (b' + 1) (by omega) (fun z hz => by rw [kO_1 (h.2.2.2 z hz).2.1]; unfold pL; rw [decide_eq_true_eq]), bind_s]
    · rw [if_neg (fun q => d1 ((kO_1 hb.2.1).mp q)), if_neg d1]
      by_cases d2 : isD (B b')
      · have k2 := (kO_2 hb.2.1).mpr d2
        rw [k2, if_pos rfl, if_pos d2, lp 2 (pD B) (b' + 1) (by omega) (fun z hz => by rw [kO_2 (h.2.2.2 z hz).2.1]; unfold pD; rw [decide_eq_true_eq]), bind_s]
      · rw [if_neg (fun q => d2 ((kO_2 hb.2.1).mp q)), if_neg d2]
  · have ek : tkK B L b' = 0 := if_neg c
    have ee : tkE B L b' = b' := if_neg c
    rw [ek, if_pos rfl, bind_s, nm_9]
    rw [ek] at f3
    rw [f3, if_neg (by decide), if_neg (by decide), ee]
end Token
/-! What the reader stands at: the rest of the text, from the token that it has read. -/
theorem adv_run {P : Nat → Bool} {L : Nat} : ∀ (n i : Nat), i + n ≤ L → (∀ k, k < n → P (i + k) = true) → (i + n = L ∨ P (i + n) = false) → adv P L i = i + n
  | 0, i, h1, _, h3 => adv_stop (by
    rcases h3 with h3 | h3
    · exact Or.inl (by omega)
    · exact Or.inr h3)
  | n + 1, i, h1, h2, h3 => by
    rw [adv_step (L := L) (show i < L by omega) (show P i = true from h2 0 (by omega)), adv_run n (i + 1) (by omega) (fun k hk => by rw [show i + 1 + k = i + (k + 1) by omega]; exact h2 (k + 1) (by omega)) (by rw [show i + 1 + n = i + (n + 1) by omega]; exact h3)]
    omega
/-- w is a token of the kind k, r stands behind it -/
def TK (w r : List Nat) (k : Int32) : Prop := (k = 1 ∧ w ≠ [] ∧ (∀ x ∈ w, isL x) ∧ ∀ x, r.head? = some x → ¬ isL x) ∨ (k = 2 ∧ w ≠ [] ∧ (∀ x ∈ w, isD x) ∧ ∀ x, r.head? = some x → ¬ isD x) ∨ (k = nI 59 ∧ w = [59])
/-- no blank stands first -/
def nbl (r : List Nat) : Prop := ∀ x, r.head? = some x → x ≠ 32 ∧ x ≠ 10
/-- t stands at b, and ends the text -/
def AT9 (B : Nat → Nat) (L b : Nat) (t : List Nat) : Prop := b + t.length = L ∧ ∀ k, k < t.length → B (b + k) = t.getD k 0
theorem AT9.tl {B : Nat → Nat} {L b : Nat} {w r : List Nat} (h : AT9 B L b (w ++ r)) : AT9 B L (b + w.length) r := by
  obtain ⟨h1, h2⟩ := h
  rw [List.length_append] at h1
  refine ⟨by omega, fun k hk => ?_⟩
  have := h2 (w.length + k) (by rw [List.length_append]; omega)
  rw [show b + w.length + k = b + (w.length + k) by omega, this, getD_app2 (by omega)]
  congr 1
  omega
theorem AT9.hd {B : Nat → Nat} {L b k : Nat} {w r : List Nat} (h : AT9 B L b (w ++ r)) (hk : k < w.length) : B (b + k) = w.getD k 0 := by
  rw [h.2 k (by rw [List.length_append]; omega), getD_app1 hk]
theorem AT9.hd1 {B : Nat → Nat} {L b : Nat} {r : List Nat} (h : AT9 B L b r) : b = L ∨ (b < L ∧ r.head? = some (B b)) := by
  obtain ⟨h1, h2⟩ := h
  cases r with
  | nil => exact Or.inl h1
  | cons x r =>
    have := h2 0 (by simp)
    simp at h1
    exact Or.inr ⟨by omega, by rw [show B b = x from this]; rfl⟩
theorem getD_mem {w : List Nat} {k : Nat} (h : k < w.length) : w.getD k 0 ∈ w := by
  rw [List.getD_eq_getElem?_getD, List.getElem?_eq_getElem h]
  exact List.getElem_mem h
theorem tok_E {B : Nat → Nat} {L b : Nat} {w r : List Nat} {k : Int32} (h : AT9 B L b (w ++ r)) (ht : TK w r k) : tkE B L b = b + w.length ∧ tkK B L b = k := by
  have hlen := h.1
  rw [List.length_append] at hlen
  have run : ∀ (Q : Nat → Prop) [DecidablePred Q], w ≠ [] → (∀ x ∈ w, Q x) → (∀ x, r.head? = some x → ¬ Q x) → adv (fun i => decide (Q (B i))) L (b + 1) = b + w.length := by
    intro Q _ h0 h1 h2
    have hw : w.length ≠ 0 := fun z => h0 (List.length_eq_zero_iff.mp z)
    have e : adv (fun i => decide (Q (B i))) L (b + 1) = b + 1 + (w.length - 1) := by
      refine adv_run (w.length - 1) (b + 1) (by omega) (fun z hz => ?_) ?_
      · have := h.hd (k := z + 1) (by omega)
        show decide (Q (B (b + 1 + z))) = true
        rw [show b + 1 + z = b + (z + 1) by omega, this]
        exact decide_eq_true (h1 _ (getD_mem (by omega)))
      · rw [show b + 1 + (w.length - 1) = b + w.length by omega]
        rcases h.tl.hd1 with z | ⟨z, z2⟩
        · exact Or.inl z
        · exact Or.inr (decide_eq_false (h2 _ z2))
    rw [e]
    omega
  have h0 : w ≠ [] → b < L ∧ B b = w.getD 0 0 ∧ w.getD 0 0 ∈ w := fun hw => by
    have hl : w.length ≠ 0 := fun z => hw (List.length_eq_zero_iff.mp z)
    exact ⟨by omega, h.hd (k := 0) (by omega), getD_mem (by omega)⟩
  rcases ht with ⟨rfl, hw, h1, h2⟩ | ⟨rfl, hw, h1, h2⟩ | ⟨rfl, rfl⟩
  · obtain ⟨b1, b2, b3⟩ := h0 hw
    have hl : isL (B b) := by rw [b2]; exact h1 _ b3
    unfold tkE tkK kO
    rw [if_pos b1, if_pos b1, if_pos hl, if_pos hl]
    exact ⟨run isL hw h1 h2, rfl⟩
  · obtain ⟨b1, b2, b3⟩ := h0 hw
    have hd : isD (B b) := by rw [b2]; exact h1 _ b3
    have hl : ¬ isL (B b) := fun z => by unfold isD at hd; unfold isL at z; omega
    unfold tkE tkK kO
    rw [if_pos b1, if_pos b1, if_neg hl, if_neg hl, if_pos hd, if_pos hd]
    exact ⟨run isD hw h1 h2, rfl⟩
  · obtain ⟨b1, b2, -⟩ := h0 (by simp)
    replace b2 : B b = 59 := b2
    unfold tkE tkK kO
    rw [if_pos b1, if_pos b1, b2, if_neg (show ¬ isL 59 by decide), if_neg (show ¬ isL 59 by decide), if_neg (show ¬ isD 59 by decide), if_neg (show ¬ isD 59 by decide), if_pos (Or.inl rfl)]
    exact ⟨rfl, rfl⟩
/-- the reader stands at the first token of rest -/
def RD (m : Mem) (rest : List Nat) : Prop := ∃ B L b, TX m m B L ∧ AT9 B L b rest ∧ m 8 0 2 = nI b ∧ m 8 0 1 = tkK B L b ∧ m 8 0 3 = nI (tkE B L b) ∧ m 8 0 4 = 0
/-- only where the reader stands has changed -/
def FR8 (m m' : Mem) : Prop := (∀ K, K ≠ 8 → m' K = m K) ∧ ∀ f, f = 0 ∨ 3 < f → m' 8 0 f = m 8 0 f
theorem FR8.rf {m : Mem} : FR8 m m := ⟨fun _ _ => rfl, fun _ _ => rfl⟩
theorem FR8.tr {m m' m'' : Mem} (h : FR8 m m') (h' : FR8 m' m'') : FR8 m m'' := ⟨fun K a => (h'.1 K a).trans (h.1 K a), fun f a => (h'.2 f a).trans (h.2 f a)⟩
theorem TX.of8 {m m' : Mem} {B : Nat → Nat} {L : Nat} (h : TX m m B L) (e1 : m' 11 = m 11) (e2 : m' 20 = m 20) : TX m' m' B L := ⟨h.1, by rw [e1]; exact h.2.1, rfl, fun i hi => ⟨(h.2.2.2 i hi).1, (h.2.2.2 i hi).2.1, by rw [e2]; exact (h.2.2.2 i hi).2.2.1, rfl⟩⟩
/-- other cells are written -/
theorem RD.keep {m m' : Mem} {rest : List Nat} (h : RD m rest) (e1 : m' 11 = m 11) (e2 : m' 20 = m 20) (e3 : m' 8 = m 8) : RD m' rest := by
  obtain ⟨B, L, b, h1, h2, h3, h4, h5, h6⟩ := h
  exact ⟨B, L, b, h1.of8 e1 e2, h2, by rw [e3]; exact h3, by rw [e3]; exact h4, by rw [e3]; exact h5, by rw [e3]; exact h6⟩
theorem next_at {m : Mem} {B : Nat → Nat} {L e b : Nat} {r : List Nat} (hT : TX m m B L) (h3 : m 8 0 3 = nI e) (he : e ≤ L) (h4 : m 8 0 4 = 0) (hb : adv (pB B) L e = b) (hA : AT9 B L b r) : ∃ m', f_Reader_next 8 m = some m' ∧ RD m' r ∧ FR8 m m' := by
  refine ⟨_, C_next (Or.inr rfl) hT h3 he, ⟨B, L, b, ?_, hA, ?_, ?_, ?_, ?_⟩, fun K q => ?_, fun f q => ?_⟩
  · exact hT.of8 (by rw [st3_K (by omega), st3_K (by omega), st3_K (by omega)]) (by rw [st3_K (by omega), st3_K (by omega), st3_K (by omega)])
  · rw [st3_ua, ua_N (by omega), st3_ua, ua_N (by omega), st3_ua, ua_S, hb]
  · rw [st3_ua, ua_N (by omega), st3_ua, ua_S, hb]
  · rw [st3_ua, ua_S, hb]
  · rw [st3_ua, ua_N (by omega), st3_ua, ua_N (by omega), st3_ua, ua_N (by omega)]
    exact h4
  · rw [st3_K q, st3_K q, st3_K q]
  · rw [st3_ua, ua_N (by omega), st3_ua, ua_N (by omega), st3_ua, ua_N (by omega)]
theorem blank_at {B : Nat → Nat} {L e : Nat} {sp r : List Nat} (h : AT9 B L e (sp ++ r)) (hs : sp = [] ∨ sp = [32]) (hr : nbl r) : adv (pB B) L e = e + sp.length := by
  have hl := h.1
  rw [List.length_append] at hl
  refine adv_run sp.length e (by omega) (fun k hk => ?_) ?_
  · rcases hs with rfl | rfl
    · exact absurd hk (by simp)
    · have := h.hd hk
      replace hk : k < 1 := hk
      obtain rfl : k = 0 := by omega
      unfold pB
      rw [this]
      rfl
  · rcases h.tl.hd1 with z | ⟨z, z2⟩
    · exact Or.inl z
    · obtain ⟨x1, x2⟩ := hr _ z2
      refine Or.inr ?_
      unfold pB
      rw [decide_eq_false x1, decide_eq_false x2]
      rfl
/-- one token on -/
theorem RD.next {m : Mem} {w sp r : List Nat} {k : Int32} (h : RD m (w ++ (sp ++ r))) (ht : TK w (sp ++ r) k) (hs : sp = [] ∨ sp = [32]) (hr : nbl r) : ∃ m', f_Reader_next 8 m = some m' ∧ RD m' r ∧ FR8 m m' := by
  obtain ⟨B, L, b, h1, h2, h3, h4, h5, h6⟩ := h
  obtain ⟨e1, e2⟩ := tok_E h2 ht
  rw [e1] at h5
  have hl := h2.1
  rw [List.length_append] at hl
  exact next_at h1 h5 (by omega) h6 (blank_at h2.tl hs hr) h2.tl.tl
theorem lenI {w : List Nat} {b : Nat} : nI (b + w.length) - nI b = nI w.length := by
  rw [nI_sub (by omega)]
  congr 1
  omega
/-- a word: it is seen when it is there -/
theorem RD.sees {m : Mem} {w r : List Nat} {wi : Nat} (h : RD m (w ++ r)) (ht : TK w r 1) (hw : sTx wi = w.map nI) (hl : w.length ≤ 20) : f_Reader_sees 8 wi m = some 1 := by
  obtain ⟨B, L, b, h1, h2, h3, h4, h5, h6⟩ := h
  obtain ⟨e1, e2⟩ := tok_E h2 ht
  have hL := h1.1
  have hlen := h2.1
  rw [List.length_append] at hlen
  have es : sLen wi = nI w.length := by unfold sLen; rw [hw, List.length_map]; rfl
  unfold f_Reader_sees
  rw [h6, if_pos rfl, h4, e2, if_pos rfl, h5, e1, h3, lenI, es, if_pos rfl]
  have key : it (fun (s : Int32) => s_Reader_sees_35 8 wi s m) LIM 0 = some (.inl ()) := by
    suffices H : ∃ r, it (fun (s : Int32) => s_Reader_sees_35 8 wi s m) LIM 0 = some r ∧ r = .inl () by
      obtain ⟨r, a, rfl⟩ := H
      exact a
    refine it_for (fun i q => q = nI i) (fun q => q = (.inl () : Unit ⊕ Int32)) w.length 0 (by omega) (by omega) rfl (fun i hi q hq => ?_) (fun q hq => ?_)
    · subst hq
      refine ⟨_, ?_, rfl⟩
      unfold s_Reader_sees_35
      have ea : sAt wi (nI i) = nI (w.getD i 0) := by
        unfold sAt
        rw [nI_clamp (by omega), hw, List.getD_eq_getElem?_getD, List.getElem?_map, List.getD_eq_getElem?_getD, List.getElem?_eq_getElem hi]
        rfl
      rw [es, if_neg (nI_ge hi (by omega)), h3, nI_add, C_at h1 (by omega), bind_s, if_pos (show b + i < L by omega), chk_of (inb_of (by rw [hw, List.length_map]; exact hi) (by rw [hw, List.length_map]; omega)), h2.hd hi, ea, if_pos rfl, nI_1]
    · subst hq
      refine ⟨_, ?_, rfl⟩
      unfold s_Reader_sees_35
      rw [es, if_pos (nI_le (Nat.le_refl _) (by omega))]
  rw [key, bind_s]
  rfl
/-- another word, or the end -/
theorem RD.sees0 {m : Mem} {rest : List Nat} {wi : Nat} (h : RD m rest) (h2 : rest = [] ∨ ∃ w r, rest = w ++ r ∧ TK w r 1 ∧ w.length ≤ 20 ∧ (sTx wi).length ≠ w.length ∧ (sTx wi).length ≤ 20) : f_Reader_sees 8 wi m = some 0 := by
  obtain ⟨B, L, b, h1, h2', h3, h4, h5, h6⟩ := h
  unfold f_Reader_sees
  rw [h6, if_pos rfl]
  rcases h2 with rfl | ⟨w, r, rfl, ht, hl, hne, hl2⟩
  · have hb : b = L := h2'.1
    have e0 : tkK B L b = 0 := by
      unfold tkK
      rw [if_neg (by omega)]
    rw [h4, e0, if_neg (by decide)]
  · obtain ⟨e1, e2⟩ := tok_E h2' ht
    rw [h4, e2, if_pos rfl, h5, e1, h3, lenI, if_neg (show ¬ nI w.length = sLen wi from fun z => hne ((nI_eq (by omega) (by omega)).mp (show nI w.length = nI (sTx wi).length from z)).symm)]
/-- only a word of its length is the same -/
theorem RD.takeWord {m : Mem} {w sp r : List Nat} {wi : Nat} (h : RD m (w ++ (sp ++ r))) (ht : TK w (sp ++ r) 1) (hw : sTx wi = w.map nI) (hl : w.length ≤ 20) (hs : sp = [] ∨ sp = [32]) (hr : nbl r) : ∃ m', f_Reader_takeWord 8 wi m = some m' ∧ RD m' r ∧ FR8 m m' := by
  obtain ⟨m', e1, e2, e3⟩ := h.next ht hs hr
  refine ⟨m', ?_, e2, e3⟩
  unfold f_Reader_takeWord
  rw [h.sees ht hw hl, bind_s, if_neg (by decide), e1, bind_s]
theorem RD.takeSign {m : Mem} {sp r : List Nat} (h : RD m ([59] ++ (sp ++ r))) (hs : sp = [] ∨ sp = [32]) (hr : nbl r) : ∃ m', f_Reader_takeSign 8 59 m = some m' ∧ RD m' r ∧ FR8 m m' := by
  have ht : TK [59] (sp ++ r) (nI 59) := Or.inr (Or.inr ⟨rfl, rfl⟩)
  obtain ⟨m', e1, e2, e3⟩ := h.next ht hs hr
  refine ⟨m', ?_, e2, e3⟩
  obtain ⟨B, L, b, h1, h2, h3, h4, h5, h6⟩ := h
  obtain ⟨-, g2⟩ := tok_E h2 ht
  unfold f_Reader_takeSign f_Reader_seesSign
  rw [h6, if_pos rfl, h4, g2, if_pos (show nI 59 = 59 from rfl), bind_s, if_neg (by decide), e1, bind_s]
/-- a number -/
theorem RD.number {m : Mem} {v lo hi : Nat} {sp r : List Nat} (h : RD m (digs v ++ (sp ++ r))) (hv : v < 100000) (hlo : lo ≤ v) (hhi : v ≤ hi) (hi2 : hi < 2 ^ 31) (hd : ∀ x, (sp ++ r).head? = some x → ¬ isD x) (hs : sp = [] ∨ sp = [32]) (hr : nbl r) : ∃ m', f_Reader_takeNumber 8 (nI lo) (nI hi) m = some (nI v, m') ∧ RD m' r ∧ FR8 m m' := by
  obtain ⟨hlt, hge⟩ := dl_pw hv
  obtain ⟨dl1, dl5⟩ := dl_le (w := v)
  have hne : digs v ≠ [] := fun z => by
    have := digs_len (v := v)
    rw [z] at this
    simp at this
    omega
  have hD : ∀ x ∈ digs v, isD x := fun x hx => by
    unfold digs at hx
    obtain ⟨j, -, rfl⟩ := List.mem_map.mp hx
    have : v / 10 ^ (dl v - 1 - j) % 10 < 10 := Nat.mod_lt _ (by decide)
    unfold isD
    omega
  have ht : TK (digs v) (sp ++ r) 2 := Or.inr (Or.inl ⟨rfl, hne, hD, hd⟩)
  obtain ⟨m', e1, e2, e3⟩ := h.next ht hs hr
  refine ⟨m', ?_, e2, e3⟩
  obtain ⟨B, L, b, h1, h2, h3, h4, h5, h6⟩ := h
  obtain ⟨g1, g2⟩ := tok_E h2 ht
  rw [digs_len] at g1
  have hL := h1.1
  have hlen := h2.1
  rw [List.length_append, digs_len] at hlen
  have key : it (fun (s : Int32 × Int32) => s_Reader_takeNumber_30 8 (nI lo) (nI hi) s.1 s.2 m) LIM (0, nI b) = some (nI v) := by
    suffices H : ∃ r, it (fun (s : Int32 × Int32) => s_Reader_takeNumber_30 8 (nI lo) (nI hi) s.1 s.2 m) LIM (0, nI b) = some r ∧ r = nI v by
      obtain ⟨r, a, rfl⟩ := H
      exact a
    refine it_for (fun i (q : Int32 × Int32) => q = (nI (v / 10 ^ (dl v - i)), nI (b + i))) (fun q => q = nI v) (dl v) 0 (by omega) (by omega) ?_ (fun i hi9 q hq => ?_) (fun q hq => ?_)
    · rw [Nat.sub_zero, Nat.div_eq_of_lt hlt]
      rfl
    · subst hq
      refine ⟨_, ?_, rfl⟩
      show s_Reader_takeNumber_30 8 (nI lo) (nI hi) (nI (v / 10 ^ (dl v - i))) (nI (b + i)) m = _
      have hz : v / 10 ^ (dl v - i) = v / 10 ^ (dl v - (i + 1)) / 10 := by
        rw [show dl v - i = (dl v - (i + 1)) + 1 by omega, Nat.pow_succ, Nat.div_div_eq_div_mul]
      have hx : v / 10 ^ (dl v - (i + 1)) ≤ v := Nat.div_le_self _ _
      have hB : B (b + i) = 48 + v / 10 ^ (dl v - (i + 1)) % 10 := by
        rw [h2.hd (by rw [digs_len]; exact hi9), digs_at hi9, show dl v - 1 - i = dl v - (i + 1) by omega]
      unfold s_Reader_takeNumber_30
      rw [h5, g1, if_neg (nI_ge (by omega) (by omega)), C_at h1 (by omega), bind_s, if_pos (show b + i < L by omega), hB, hz]
      generalize v / 10 ^ (dl v - (i + 1)) = y at *
      have e9 : nI (y / 10) * 10 + nI (48 + y % 10) - 48 = nI y := by
        rw [show nI (y / 10) * 10 = nI (y / 10 * 10) from pk_mul _ 10, nI_add, show (48 : Int32) = nI 48 from rfl, nI_sub (by omega)]
        congr 1
        omega
      rw [e9, if_neg (show ¬ (1000000 : Int32) < nI y from nI_nlt (a := 1000000) (by omega) (by omega)), nm_9, nI_1]
      rfl
    · subst hq
      refine ⟨_, ?_, rfl⟩
      show s_Reader_takeNumber_30 8 (nI lo) (nI hi) (nI (v / 10 ^ (dl v - dl v))) (nI (b + dl v)) m = _
      unfold s_Reader_takeNumber_30
      rw [h5, g1, if_pos (nI_le (Nat.le_refl _) (by omega)), Nat.sub_self, Nat.pow_zero, Nat.div_one]
  unfold f_Reader_takeNumber
  rw [h6, if_pos rfl, h4, g2, if_pos rfl, nm_9, h3, key, bind_s, C_within, bind_s]
  have w1 : wi (nI v) (nI lo) (nI hi) = 1 := by
    unfold wi
    rw [if_neg (nI_nlt hlo (by omega)), if_neg (nI_nlt hhi (by omega))]
  rw [w1, if_neg (by decide), e1, bind_s]
/-- a name of two letters -/
theorem RD.name {m : Mem} {p q : Nat} {r : List Nat} (h : RD m ([96 + p, 96 + q] ++ r)) (hp : 1 ≤ p ∧ p ≤ 26) (hq : 1 ≤ q ∧ q ≤ 26) (hr : ∀ x, r.head? = some x → ¬ isL x) : f_Reader_codeOfName 8 m = some (nI (e5 [p, q]), m) := by
  have ht : TK [96 + p, 96 + q] r 1 := Or.inl ⟨rfl, by simp, fun x hx => by
    simp at hx
    unfold isL
    rcases hx with rfl | rfl <;> omega, hr⟩
  obtain ⟨B, L, b, h1, h2, h3, h4, h5, h6⟩ := h
  obtain ⟨g1, g2⟩ := tok_E h2 ht
  replace g1 : tkE B L b = b + 2 := g1
  have hL := h1.1
  have hlen := h2.1
  rw [List.length_append] at hlen
  replace hlen : b + (2 + r.length) = L := hlen
  have b0 : B (b + 0) = 96 + p := h2.hd (k := 0) (show 0 < 2 by omega)
  have b1 : B (b + 1) = 96 + q := h2.hd (k := 1) (show 1 < 2 by omega)
  have hw : wl B b 2 = [p, q] := by
    show ([] ++ [B (b + 0) - 96]) ++ [B (b + 1) - 96] = _
    rw [b0, b1, show 96 + p - 96 = p by omega, show 96 + q - 96 = q by omega]
    rfl
  unfold f_Reader_codeOfName
  rw [h6, if_pos rfl, h4, g2, if_pos rfl, h5, g1, h3, show nI (b + 2) - nI b = nI 2 from lenI (w := [p, q]), if_pos (by decide), C_codeOf h1 (by omega) (by omega) (by omega) (fun i hi => by
    rcases (show i = 0 ∨ i = 1 by omega) with rfl | rfl
    · rw [b0]; unfold isL; omega
    · rw [b1]; unfold isL; omega), bind_s, hw]
theorem RD.newName {m : Mem} {j p q n : Nat} {sp r : List Nat} (h : RD m ([96 + p, 96 + q] ++ (sp ++ r))) (hp : 1 ≤ p ∧ p ≤ 26) (hq : 1 ≤ q ∧ q ≤ 26) (hr : ∀ x, (sp ++ r).head? = some x → ¬ isL x) (hs : sp = [] ∨ sp = [32]) (hb : nbl r) (hn : m 3 j 1 = nI n) (hn8 : n ≤ 8) (hno : ∀ k, k < n → m 23 j k ≠ nI (e5 [p, q])) : ∃ m', f_Reader_takeNewName 8 j m = some (nI (e5 [p, q]), m') ∧ RD m' r ∧ FR8 m m' := by
  have ht : TK [96 + p, 96 + q] (sp ++ r) 1 := Or.inl ⟨rfl, by simp, fun x hx => by
    simp at hx
    unfold isL
    rcases hx with rfl | rfl <;> omega, hr⟩
  obtain ⟨m', e1, e2, e3⟩ := h.next ht hs hb
  refine ⟨m', ?_, e2, e3⟩
  have h4 : m 8 0 4 = 0 := by obtain ⟨B, L, b, -, -, -, -, -, h6⟩ := h; exact h6
  have hf : fdI (fun k => decide (m 23 j k = nI (e5 [p, q]))) 0 n = -1 := by
    rcases fdI_sp (P := fun k => decide (m 23 j k = nI (e5 [p, q]))) (n := n) (i := 0) with ⟨e, -⟩ | ⟨k, -, hk, e, -, -⟩
    · exact e
    · exact absurd (of_decide_eq_true e) (hno k (by omega))
  unfold f_Reader_takeNewName
  rw [h.name hp hq hr, bind_s, C_find hn hn8, hf, bind_s, if_pos rfl, bind_s]
  show (if m 8 0 4 = 0 then (f_Reader_next 8 m).bind (fun r4 => some (nI (e5 [p, q]), r4)) else some (nI (e5 [p, q]), m)) = _
  rw [h4, if_pos rfl, e1, bind_s]

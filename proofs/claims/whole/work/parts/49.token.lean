/-! The readers: tokens. -/
/-- on while P -/
def runP (P : Nat → Bool) : Nat → Nat → Nat
  | 0, i => i
  | k + 1, i => if P i = true then runP P k (i + 1) else i
def adv (P : Nat → Bool) (L i : Nat) : Nat := runP P (L - i) i
theorem adv_step {P : Nat → Bool} {L i : Nat} (h : i < L) (hp : P i = true) : adv P L i = adv P L (i + 1) := by
  unfold adv
  rw [show L - i = (L - (i + 1)) + 1 by omega]
  show (if P i = true then _ else _) = _
  rw [if_pos hp]
theorem adv_stop {P : Nat → Bool} {L i : Nat} (h : L ≤ i ∨ P i = false) : adv P L i = i := by
  unfold adv
  rcases h with h | h
  · rw [show L - i = 0 by omega]; rfl
  · cases hk : L - i with
    | zero => rfl
    | succ k =>
      show (if P i = true then _ else _) = _
      rw [h, if_neg (by decide)]
theorem adv_ge {P : Nat → Bool} {L : Nat} : ∀ {k i : Nat}, L - i = k → i ≤ adv P L i
  | 0, i, h => by rw [adv_stop (Or.inl (by omega))]; exact Nat.le_refl _
  | k + 1, i, h => by
    cases hp : P i with
    | true => rw [adv_step (by omega) hp]; exact Nat.le_trans (by omega) (adv_ge (k := k) (i := i + 1) (by omega))
    | false => rw [adv_stop (Or.inr hp)]; exact Nat.le_refl _
theorem adv_le {P : Nat → Bool} {L : Nat} : ∀ {k i : Nat}, L - i = k → i ≤ L → adv P L i ≤ L
  | 0, i, h, hi => by rw [adv_stop (Or.inl (by omega))]; exact hi
  | k + 1, i, h, hi => by
    cases hp : P i with
    | true => rw [adv_step (by omega) hp]; exact adv_le (k := k) (i := i + 1) (by omega) (by omega)
    | false => rw [adv_stop (Or.inr hp)]; exact hi
theorem adv_all {P : Nat → Bool} {L : Nat} : ∀ {k i : Nat}, L - i = k → ∀ z, i ≤ z → z < adv P L i → P z = true
  | 0, i, h, z, h1, h2 => by rw [adv_stop (Or.inl (by omega))] at h2; omega
  | k + 1, i, h, z, h1, h2 => by
    cases hp : P i with
    | true =>
      rw [adv_step (by omega) hp] at h2
      by_cases e : z = i
      · subst e; exact hp
      · exact adv_all (k := k) (i := i + 1) (by omega) z (by omega) h2
    | false => rw [adv_stop (Or.inr hp)] at h2; omega
theorem adv_end {P : Nat → Bool} {L : Nat} : ∀ {k i : Nat}, L - i = k → adv P L i < L → P (adv P L i) = false
  | 0, i, h, h2 => by rw [adv_stop (Or.inl (by omega))] at h2; omega
  | k + 1, i, h, h2 => by
    cases hp : P i with
    | true => rw [adv_step (by omega) hp] at h2 ⊢; exact adv_end (k := k) (i := i + 1) (by omega) h2
    | false => rw [adv_stop (Or.inr hp)]; exact hp
/-- a loop that goes on while P -/
theorem it_advK {S R : Type} {f : S → Option (S ⊕ R)} (P : Nat → Bool) (L : Nat) (st : Nat → S) (en : Nat → R) : ∀ (k i : Nat), L - i = k → (∀ z, i ≤ z → z ≤ L → z = i ∨ z < L ∨ z = L → f (st z) = some (if z < L ∧ P z = true then .inl (st (z + 1)) else .inr (en z))) → i ≤ L → it f (k + 1) (st i) = some (en (adv P L i)) := by
  intro k
  induction k with
  | zero =>
    intro i hk hf hi
    refine it_r ?_
    rw [hf i (Nat.le_refl _) hi (Or.inl rfl), if_neg (by omega), adv_stop (Or.inl (by omega))]
  | succ k ih =>
    intro i hk hf hi
    cases hp : P i with
    | true =>
      refine it_l (s' := st (i + 1)) ?_ ?_
      · rw [hf i (Nat.le_refl _) hi (Or.inl rfl), if_pos ⟨by omega, hp⟩]
      · rw [adv_step (by omega) hp]
        exact ih (i + 1) (by omega) (fun z h1 h2 h3 => hf z (by omega) h2 (by omega)) (by omega)
    | false =>
      refine it_mono (show 0 + 1 ≤ k + 1 + 1 by omega) (it_r ?_)
      rw [hf i (Nat.le_refl _) hi (Or.inl rfl), if_neg (by rw [hp]; rintro ⟨-, z⟩; exact absurd z (by decide)), adv_stop (Or.inr hp)]
theorem it_adv {S R : Type} {f : S → Option (S ⊕ R)} (P : Nat → Bool) (L : Nat) (st : Nat → S) (en : Nat → R) {i : Nat} (hi : i ≤ L) (hL : L ≤ 1000) (hf : ∀ z, i ≤ z → z ≤ L → f (st z) = some (if z < L ∧ P z = true then .inl (st (z + 1)) else .inr (en z))) : it f LIM (st i) = some (en (adv P L i)) :=
  it_mono (show L - i + 1 ≤ 3000000 by omega) (it_advK P L st en (L - i) i rfl (fun z h1 h2 _ => hf z h1 h2) hi)
abbrev isD (b : Nat) : Prop := 48 ≤ b ∧ b ≤ 57
def pB (B : Nat → Nat) (i : Nat) : Bool := decide (B i = 32) || decide (B i = 10)
def pL (B : Nat → Nat) (i : Nat) : Bool := decide (isL (B i))
def pD (B : Nat → Nat) (i : Nat) : Bool := decide (isD (B i))
/-- the kind of a byte in the class -/
def kO (b : Nat) : Int32 := if isL b then 1 else if isD b then 2 else if b = 59 ∨ b = 40 ∨ b = 41 then nI b else 3
/-- digits as a number, kept under a bound -/
def dv (B : Nat → Nat) (b : Nat) : Nat → Nat
  | 0 => 0
  | k + 1 => min 1000000 (10 * dv B b k + (B (b + k) - 48))
theorem dv_le {B : Nat → Nat} {b : Nat} : ∀ {k : Nat}, dv B b k ≤ 1000000
  | 0 => Nat.zero_le _
  | k + 1 => Nat.min_le_left _ _
def TKR (kd tk val : Int32) (B : Nat → Nat) (b e L : Nat) : Prop := b ≤ e ∧ e ≤ L ∧
  ((kd = 0 ∧ tk = 0 ∧ b = L) ∨ (kd = 1 ∧ tk = 1 ∧ b < e ∧ ∀ i, b ≤ i → i < e → isL (B i)) ∨ (kd = 2 ∧ tk = 2 ∧ b < e ∧ (∀ i, b ≤ i → i < e → isD (B i)) ∧ val = nI (dv B b (e - b))) ∨
   (b < e ∧ kd = nI (B b) ∧ tk = 3 ∧ (B b = 59 ∨ B b = 40 ∨ B b = 41)) ∨ (b < e ∧ kd = 3 ∧ tk = 4))
/-- both readers stand alike -/
def RS (K : Nat) (μ ν : Mem) (B : Nat → Nat) (L b e : Nat) : Prop := TX μ ν B L ∧ (μ K 0 2 = nI b ∧ ν 13 0 13 = nI b) ∧ (μ K 0 3 = nI e ∧ ν 13 0 12 = nI e) ∧ TKR (μ K 0 1) (ν 13 0 14) (ν 13 0 15) B b e L ∧ μ K 0 4 = ν 13 0 16 ∧ μ K 0 5 = ν 13 0 17
def FRD (K : Nat) (μ m ν v : Mem) : Prop := (∀ K', K' ≠ K → m K' = μ K') ∧ (∀ j f, (j ≠ 0 ∨ f = 0 ∨ 5 < f) → m K j f = μ K j f) ∧ (∀ K', K' ≠ 13 → v K' = ν K') ∧ ∀ f, (f < 12 ∨ 17 < f) → v 13 0 f = ν 13 0 f
theorem FRD.rf {K : Nat} {μ ν : Mem} : FRD K μ μ ν ν := ⟨fun _ _ => rfl, fun _ _ _ => rfl, fun _ _ => rfl, fun _ _ => rfl⟩
theorem FRD.tr {K : Nat} {μ m m' ν v v' : Mem} (h : FRD K μ m ν v) (h' : FRD K m m' v v') : FRD K μ m' ν v' := ⟨fun K' q => (h'.1 K' q).trans (h.1 K' q), fun j f q => (h'.2.1 j f q).trans (h.2.1 j f q), fun K' q => (h'.2.2.1 K' q).trans (h.2.2.1 K' q), fun f q => (h'.2.2.2 f q).trans (h.2.2.2 f q)⟩
theorem FRD.c {K f : Nat} {μ m ν v : Mem} {x : Int32} (h : FRD K μ m ν v) (hf : 1 ≤ f ∧ f ≤ 5) : FRD K μ (st3 m K 0 f x) ν v := ⟨fun K' q => (st3_K q).trans (h.1 K' q), fun j g q => by
  by_cases e : j = 0
  · subst e; rw [st3_ua, ua_N (by omega)]; exact h.2.1 0 g q
  · rw [st3_J e]; exact h.2.1 j g q, h.2.2⟩
theorem FRD.m {K f : Nat} {μ m ν v : Mem} {x : Int32} (h : FRD K μ m ν v) (hf : 12 ≤ f ∧ f ≤ 17) : FRD K μ m ν (st3 v 13 0 f x) := ⟨h.1, h.2.1, fun K' q => (st3_K q).trans (h.2.2.1 K' q), fun g q => by rw [st3_ua, ua_N (by omega)]; exact h.2.2.2 g q⟩
theorem TX.fr {K : Nat} {μ m ν v : Mem} {B : Nat → Nat} {L : Nat} (h : TX μ ν B L) (hK : K = 6 ∨ K = 8) (hF : FRD K μ m ν v) : TX m v B L := by
  obtain ⟨h1, h2, h3, h4⟩ := h
  refine ⟨h1, by rw [hF.1 11 (by omega)]; exact h2, by rw [hF.2.2.2 9 (by omega)]; exact h3, ?_⟩
  rw [hF.1 20 (by omega), hF.2.2.1 46 (by omega)]
  exact h4
section Token
variable {K : Nat} {μ ν : Mem} {B : Nat → Nat} {L b e : Nat}
theorem R_seen (h : TX μ ν B L) {i : Nat} (hi : i < 2 ^ 31) : f_R_seen (nI i) ν = some (if i < L then nI (B i) else -1) := by
  have := h.1
  unfold f_R_seen
  rw [h.2.2.1]
  by_cases c : i < L
  · rw [if_neg (nI_ge c (by omega)), if_pos c, chk_of (inb_of (by omega) (by omega)), nI_clamp hi, (h.2.2.2 i c).2.2.2]
  · rw [if_pos (nI_le (by omega) hi), if_neg c]
theorem wi_D {b : Nat} (hb : b ≤ 255) : wi (nI b) 48 57 = if isD b then 1 else 0 := by
  unfold wi
  by_cases c1 : b < 48
  · rw [if_pos (show nI b < 48 from nI_lt (b := 48) c1 (by omega)), if_neg (by unfold isD; omega)]
  · rw [if_neg (show ¬ nI b < 48 from nI_nlt (b := 48) (by omega) (by omega))]
    by_cases c2 : 57 < b
    · rw [if_pos (show (57 : Int32) < nI b from nI_lt (a := 57) c2 (by omega)), if_neg (by unfold isD; omega)]
    · rw [if_neg (show ¬ (57 : Int32) < nI b from nI_nlt (a := 57) (by omega) (by omega)), if_pos (by unfold isD; omega)]
theorem wi_L {b : Nat} (hb : b ≤ 255) : wi (nI b) 97 122 = if isL b then 1 else 0 := by
  unfold wi
  by_cases c1 : b < 97
  · rw [if_pos (show nI b < 97 from nI_lt (b := 97) c1 (by omega)), if_neg (by unfold isL; omega)]
  · rw [if_neg (show ¬ nI b < 97 from nI_nlt (b := 97) (by omega) (by omega))]
    by_cases c2 : 122 < b
    · rw [if_pos (show (122 : Int32) < nI b from nI_lt (a := 122) c2 (by omega)), if_neg (by unfold isL; omega)]
    · rw [if_neg (show ¬ (122 : Int32) < nI b from nI_nlt (a := 122) (by omega) (by omega)), if_pos (by unfold isL; omega)]
theorem nIl {b k : Nat} (hb : b ≤ 255) (hk : k < 2 ^ 31) : (nI b = nI k ↔ b = k) := nI_eq (by omega) hk
theorem C_kindOf {b : Nat} (h1 : 1 ≤ b) (hb : b ≤ 255) : f_Reader_kindOf K (nI b) μ = some (kO b) := by
  have sg : (if nI b = 59 then some (nI b) else if nI b = 40 then some (nI b) else if nI b = 41 then some (nI b) else some 3 : Option Int32) = some (if b = 59 ∨ b = 40 ∨ b = 41 then nI b else 3) := by
    by_cases d1 : b = 59
    · rw [if_pos (show nI b = 59 from (nIl (k := 59) hb (by omega)).mpr d1), if_pos (Or.inl d1)]
    · rw [if_neg (show ¬ nI b = 59 from fun z => d1 ((nIl (k := 59) hb (by omega)).mp z))]
      by_cases d2 : b = 40
      · rw [if_pos (show nI b = 40 from (nIl (k := 40) hb (by omega)).mpr d2), if_pos (Or.inr (Or.inl d2))]
      · rw [if_neg (show ¬ nI b = 40 from fun z => d2 ((nIl (k := 40) hb (by omega)).mp z))]
        by_cases d3 : b = 41
        · rw [if_pos (show nI b = 41 from (nIl (k := 41) hb (by omega)).mpr d3), if_pos (Or.inr (Or.inr d3))]
        · rw [if_neg (show ¬ nI b = 41 from fun z => d3 ((nIl (k := 41) hb (by omega)).mp z)), if_neg (by omega)]
  have dg : (if nI b < 48 then (if nI b = 59 then some (nI b) else if nI b = 40 then some (nI b) else if nI b = 41 then some (nI b) else some 3) else (if (57 : Int32) < nI b then (if nI b = 59 then some (nI b) else if nI b = 40 then some (nI b) else if nI b = 41 then some (nI b) else some 3) else some 2) : Option Int32) = some (if isD b then 2 else if b = 59 ∨ b = 40 ∨ b = 41 then nI b else 3) := by
    rw [sg]
    by_cases c1 : b < 48
    · rw [if_pos (show nI b < 48 from nI_lt (b := 48) c1 (by omega)), if_neg (show ¬ isD b by unfold isD; omega)]
    · rw [if_neg (show ¬ nI b < 48 from nI_nlt (b := 48) (by omega) (by omega))]
      by_cases c2 : 57 < b
      · rw [if_pos (show (57 : Int32) < nI b from nI_lt (a := 57) c2 (by omega)), if_neg (show ¬ isD b by unfold isD; omega)]
      · rw [if_neg (show ¬ (57 : Int32) < nI b from nI_nlt (a := 57) (by omega) (by omega)), if_pos (show isD b by unfold isD; omega)]
  unfold f_Reader_kindOf kO
  rw [if_neg (ne_m1 (by omega)), dg]
  by_cases c1 : b < 97
  · rw [if_pos (show nI b < 97 from nI_lt (b := 97) c1 (by omega)), if_neg (show ¬ isL b by unfold isL; omega)]
  · rw [if_neg (show ¬ nI b < 97 from nI_nlt (b := 97) (by omega) (by omega))]
    by_cases c2 : 122 < b
    · rw [if_pos (show (122 : Int32) < nI b from nI_lt (a := 122) c2 (by omega)), if_neg (show ¬ isL b by unfold isL; omega)]
    · rw [if_neg (show ¬ (122 : Int32) < nI b from nI_nlt (a := 122) (by omega) (by omega)), if_pos (show isL b by unfold isL; omega)]
theorem kO_ne {b : Nat} (hb : b ≤ 255) : kO b ≠ 0 := by
  unfold kO
  split
  · decide
  · split
    · decide
    · split
      · rename_i h
        exact ne_0 (by omega) (by omega)
      · decide
theorem kO_1 {b : Nat} (hb : b ≤ 255) : kO b = 1 ↔ isL b := by
  unfold kO
  constructor
  · intro h
    split at h
    · assumption
    · split at h
      · exact absurd h (by decide)
      · split at h
        · rename_i q
          have := (nIl (k := 1) hb (by omega)).mp h
          omega
        · exact absurd h (by decide)
  · intro h; rw [if_pos h]
theorem kO_2 {b : Nat} (hb : b ≤ 255) : kO b = 2 ↔ isD b := by
  unfold kO
  constructor
  · intro h
    split at h
    · exact absurd h (by decide)
    · split at h
      · assumption
      · split at h
        · rename_i q
          have := (nIl (k := 2) hb (by omega)).mp h
          omega
        · exact absurd h (by decide)
  · intro h
    have h2 := h
    unfold isD at h2
    rw [if_neg (by unfold isL; omega), if_pos h]
theorem st3_st {K j f : Nat} {x y : Int32} {μ : Mem} : st3 (st3 μ K j f x) K j f y = st3 μ K j f y := by
  funext K' j' f'
  unfold st3
  split <;> rfl
def tkE (B : Nat → Nat) (L b : Nat) : Nat := if b < L then (if isL (B b) then adv (pL B) L (b + 1) else if isD (B b) then adv (pD B) L (b + 1) else b + 1) else b
def tkK (B : Nat → Nat) (L b : Nat) : Int32 := if b < L then kO (B b) else 0
theorem C_next (hK : K = 6 ∨ K = 8) (h : TX μ ν B L) (h3 : μ K 0 3 = nI e) (he : e ≤ L) : f_Reader_next K μ = some (st3 (st3 (st3 μ K 0 2 (nI (adv (pB B) L e))) K 0 1 (tkK B L (adv (pB B) L e))) K 0 3 (nI (tkE B L (adv (pB B) L e)))) := by
  have hL := h.1
  have hat : ∀ m : Mem, (∀ K', K' ≠ K → m K' = μ K') → ∀ i, i < 2 ^ 31 → f_Text_at (nI i) m = some (if i < L then nI (B i) else -1) := fun m hm i hi => by
    have : TX m ν B L := ⟨h.1, by rw [hm 11 (by omega)]; exact h.2.1, h.2.2.1, by rw [hm 20 (by omega)]; exact h.2.2.2⟩
    exact C_at this hi
  have hsz : ∀ m : Mem, (∀ K', K' ≠ K → m K' = μ K') → f_Text_size m = some (nI L) := fun m hm => by unfold f_Text_size; rw [hm 11 (by omega), h.2.1]
  have l1 : it (fun (s : Mem) => s_Reader_next_8 K s) LIM (st3 μ K 0 2 (nI e)) = some (st3 μ K 0 2 (nI (adv (pB B) L e))) := by
    refine it_adv (f := fun (s : Mem) => s_Reader_next_8 K s) (pB B) L (fun i => st3 μ K 0 2 (nI i)) (fun i => st3 μ K 0 2 (nI i)) he (by omega) (fun z h1 h2 => ?_)
    show s_Reader_next_8 K (st3 μ K 0 2 (nI z)) = _
    have hm : ∀ K', K' ≠ K → (st3 μ K 0 2 (nI z)) K' = μ K' := fun K' q => st3_K q
    unfold s_Reader_next_8
    rw [hsz _ hm, bind_s, st3_ua, ua_S]
    by_cases c : z < L
    · have hb := h.2.2.2 z c
      rw [if_neg (nI_ge c (by omega)), hat _ hm z (by omega), bind_s, if_pos c]
      unfold f_Reader_isBlank pB
      rw [nI_1, st3_st]
      by_cases d1 : B z = 32
      · rw [if_pos (show nI (B z) = 32 from (nIl (k := 32) hb.2.1 (by omega)).mpr d1), bind_s, if_neg (by decide), nm_9, if_pos ⟨c, by simp [d1]⟩]
      · rw [if_neg (show ¬ nI (B z) = 32 from fun q => d1 ((nIl (k := 32) hb.2.1 (by omega)).mp q))]
        by_cases d2 : B z = 10
        · rw [if_pos (show nI (B z) = 10 from (nIl (k := 10) hb.2.1 (by omega)).mpr d2), bind_s, if_neg (by decide), nm_9, if_pos ⟨c, by simp [d2]⟩]
        · rw [if_neg (show ¬ nI (B z) = 10 from fun q => d2 ((nIl (k := 10) hb.2.1 (by omega)).mp q)), bind_s, if_pos rfl, if_neg (by rintro ⟨-, q⟩; simp [d1, d2] at q)]
    · rw [if_pos (nI_le (by omega) (by omega)), if_neg (by rintro ⟨q, -⟩; exact c q)]
  have hb0 := adv_le (P := pB B) (L := L) (i := e) rfl he
  generalize hb' : adv (pB B) L e = b' at l1 hb0
  have hm2 : ∀ K', K' ≠ K → (st3 μ K 0 2 (nI b')) K' = μ K' := fun K' q => st3_K q
  unfold f_Reader_next
  rw [nm_9, h3, l1, bind_s, st3_ua, ua_S, hat _ hm2 b' (by omega), bind_s]
  have hkd : f_Reader_kindOf K (if b' < L then nI (B b') else -1) (st3 μ K 0 2 (nI b')) = some (tkK B L b') := by
    unfold tkK
    by_cases c : b' < L
    · have hb := h.2.2.2 b' c
      rw [if_pos c, if_pos c, C_kindOf hb.1 hb.2.1]
    · rw [if_neg c, if_neg c]; rfl
  have lp : ∀ (x : Int32) (P : Nat → Bool) (i : Nat), i ≤ L → (∀ z, z < L → (kO (B z) = x ↔ P z = true)) → it (fun (s : Mem) => s_Reader_next_110 K s) LIM (st3 (st3 (st3 μ K 0 2 (nI b')) K 0 1 x) K 0 3 (nI i)) = some (st3 (st3 (st3 μ K 0 2 (nI b')) K 0 1 x) K 0 3 (nI (adv P L i))) := fun x P i hi hP => by
    refine it_adv (f := fun (s : Mem) => s_Reader_next_110 K s) P L (fun i => st3 (st3 (st3 μ K 0 2 (nI b')) K 0 1 x) K 0 3 (nI i)) (fun i => st3 (st3 (st3 μ K 0 2 (nI b')) K 0 1 x) K 0 3 (nI i)) hi (by omega) (fun z h1 h2 => ?_)
    show s_Reader_next_110 K (st3 (st3 (st3 μ K 0 2 (nI b')) K 0 1 x) K 0 3 (nI z)) = _
    have hm : ∀ K', K' ≠ K → (st3 (st3 (st3 μ K 0 2 (nI b')) K 0 1 x) K 0 3 (nI z)) K' = μ K' := fun K' q => by rw [st3_K q, st3_K q, st3_K q]
    have e3 : (st3 (st3 (st3 μ K 0 2 (nI b')) K 0 1 x) K 0 3 (nI z)) K 0 3 = nI z := by rw [st3_ua, ua_S]
    have e1 : (st3 (st3 (st3 μ K 0 2 (nI b')) K 0 1 x) K 0 3 (nI z)) K 0 1 = x := by rw [st3_ua, ua_N (by omega), st3_ua, ua_S]
    unfold s_Reader_next_110
    rw [hsz _ hm, bind_s, e3, e1, nI_1, st3_st]
    by_cases c : z < L
    · have hb := h.2.2.2 z c
      rw [if_neg (nI_ge c (by omega)), hat _ hm z (by omega), bind_s, if_pos c, C_kindOf hb.1 hb.2.1, bind_s]
      by_cases d : kO (B z) = x
      · rw [if_pos d, nm_9, if_pos ⟨c, (hP z c).mp d⟩]
      · rw [if_neg d, if_neg (by rintro ⟨-, q⟩; exact d ((hP z c).mpr q))]
    · rw [if_pos (nI_le (by omega) (by omega)), if_neg (by rintro ⟨q, -⟩; exact c q)]
  have f1 : (st3 (st3 μ K 0 2 (nI b')) K 0 1 (tkK B L b')) K 0 1 = tkK B L b' := by rw [st3_ua, ua_S]
  have f2 : (st3 (st3 μ K 0 2 (nI b')) K 0 1 (tkK B L b')) K 0 2 = nI b' := by rw [st3_ua, ua_N (by omega), st3_ua, ua_S]
  have f3 : ∀ y, (st3 (st3 (st3 μ K 0 2 (nI b')) K 0 1 (tkK B L b')) K 0 3 y) K 0 1 = tkK B L b' := fun y => by rw [st3_ua, ua_N (by omega)]; exact f1
  rw [hkd, bind_s, nm_9, f1, f2]
  by_cases c : b' < L
  · have hb := h.2.2.2 b' c
    have ek : tkK B L b' = kO (B b') := if_pos c
    have ee : tkE B L b' = if isL (B b') then adv (pL B) L (b' + 1) else if isD (B b') then adv (pD B) L (b' + 1) else b' + 1 := if_pos c
    rw [if_neg (by rw [ek]; exact kO_ne hb.2.1), bind_s, nm_9, nI_1, f3, ek, ee]
    by_cases d1 : isL (B b')
    · have k1 := (kO_1 hb.2.1).mpr d1
      rw [k1, if_pos rfl, if_pos d1, lp 1 (pL B) (b' + 1) (by omega) (fun z hz => by rw [kO_1 (h.2.2.2 z hz).2.1]; unfold pL; rw [decide_eq_true_eq]), bind_s]
    · rw [if_neg (fun q => d1 ((kO_1 hb.2.1).mp q)), if_neg d1]
      by_cases d2 : isD (B b')
      · have k2 := (kO_2 hb.2.1).mpr d2
        rw [k2, if_pos rfl, if_pos d2, lp 2 (pD B) (b' + 1) (by omega) (fun z hz => by rw [kO_2 (h.2.2.2 z hz).2.1]; unfold pD; rw [decide_eq_true_eq]), bind_s]
      · rw [if_neg (fun q => d2 ((kO_2 hb.2.1).mp q)), if_neg d2]
  · have ek : tkK B L b' = 0 := if_neg c
    have ee : tkE B L b' = b' := if_neg c
    rw [ek, if_pos rfl, bind_s, nm_9]
    rw [ek] at f3
    rw [f3, if_neg (by decide), if_neg (by decide), ee]
end Token

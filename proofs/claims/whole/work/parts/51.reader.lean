/-! The readers: what they take. -/
def RS0 (K : Nat) (μ ν : Mem) (B : Nat → Nat) (L : Nat) : Prop := ∃ b e, RS K μ ν B L b e
def PO (K : Nat) (μ ν m v : Mem) (B : Nat → Nat) (L : Nat) : Prop := RS0 K m v B L ∧ FRD K μ m ν v ∧ (m K 0 4 = 0 → μ K 0 4 = 0)
theorem PO.tr {K : Nat} {μ ν m v m' v' : Mem} {B : Nat → Nat} {L : Nat} (h : PO K μ ν m v B L) (h' : PO K m v m' v' B L) : PO K μ ν m' v' B L := ⟨h'.1, h.2.1.tr h'.2.1, fun q => h.2.2 (h'.2.2 q)⟩
theorem PO.rf {K : Nat} {μ ν : Mem} {B : Nat → Nat} {L : Nat} (h : RS0 K μ ν B L) : PO K μ ν μ ν B L := ⟨h, FRD.rf, id⟩
section Reader
variable {K : Nat} {μ ν : Mem} {B : Nat → Nat} {L b e : Nat}
theorem RS0.er (h : RS0 K μ ν B L) : μ K 0 4 = ν 13 0 16 := by obtain ⟨b, e, -, -, -, -, q, -⟩ := h; exact q
theorem must_ok {c : Int32} (h : ν 13 0 16 = 0) : f_R_must 1 c ν = some (1, ν) := by
  unfold f_R_must
  rw [if_pos h, if_neg (by decide), bind_s, if_pos h]
theorem must_er {x c : Int32} (h : ν 13 0 16 ≠ 0) : f_R_must x c ν = some (0, ν) := by
  unfold f_R_must
  rw [if_neg h, bind_s, if_neg h]
theorem must_no {c : Int32} (h : ν 13 0 16 = 0) (hc : c ≠ 0) : f_R_must 0 c ν = some (0, st3 (st3 ν 13 0 16 c) 13 0 17 (ν 13 0 13)) := by
  unfold f_R_must
  have e : (st3 ν 13 0 16 c) 13 0 13 = ν 13 0 13 := by rw [st3_ua, ua_N (by omega)]
  have e2 : (st3 (st3 ν 13 0 16 c) 13 0 17 (ν 13 0 13)) 13 0 16 = c := by rw [st3_ua, ua_N (by omega), st3_ua, ua_S]
  rw [if_pos h, if_pos rfl, nm_9, nm_9, e, bind_s, e2, if_neg hc]
theorem goes_er (h : ν 13 0 16 ≠ 0) : f_R_goesOn ν = some ν := by unfold f_R_goesOn; rw [if_neg h]
theorem goes_ok (h : ν 13 0 16 = 0) : f_R_goesOn ν = f_R_reads ν := by
  unfold f_R_goesOn
  rw [if_pos h]
  cases f_R_reads ν <;> rfl
theorem fail_er {c : Int32} (h : μ K 0 4 ≠ 0) : f_Reader_fail K c μ = some μ := by unfold f_Reader_fail; rw [if_neg h]
theorem P_fail {c : Int32} (hK : K = 6 ∨ K = 8) (hc : c ≠ 0) (h : RS0 K μ ν B L) : ∃ m v, f_Reader_fail K c μ = some m ∧ f_R_must 0 c ν = some (0, v) ∧ PO K μ ν m v B L ∧ m K 0 4 ≠ 0 := by
  have he := h.er
  by_cases z : μ K 0 4 = 0
  · obtain ⟨b, e, hX, ⟨h1, h2⟩, ⟨h3, h4⟩, hT, h5, h6⟩ := h
    have e1 : (st3 μ K 0 4 c) K 0 2 = μ K 0 2 := by rw [st3_ua, ua_N (by omega)]
    refine ⟨st3 (st3 μ K 0 4 c) K 0 5 (μ K 0 2), _, by unfold f_Reader_fail; rw [if_pos z, nm_9, e1, nm_9], must_no (by rw [← he]; exact z) hc, ⟨⟨b, e, ⟨hX.1, ?_, ?_, ?_⟩, ⟨?_, ?_⟩, ⟨?_, ?_⟩, ?_, ?_, ?_⟩, ((FRD.rf.c (by omega)).c (by omega)).m (by omega) |>.m (by omega), fun _ => z⟩, ?_⟩
    · rw [st3_K (by omega), st3_K (by omega)]; exact hX.2.1
    · rw [st3_ua, ua_N (by omega), st3_ua, ua_N (by omega)]; exact hX.2.2.1
    · rw [st3_K (by omega), st3_K (by omega), st3_K (by omega), st3_K (by omega)]; exact hX.2.2.2
    · rw [st3_ua, ua_N (by omega), st3_ua, ua_N (by omega)]; exact h1
    · rw [st3_ua, ua_N (by omega), st3_ua, ua_N (by omega)]; exact h2
    · rw [st3_ua, ua_N (by omega), st3_ua, ua_N (by omega)]; exact h3
    · rw [st3_ua, ua_N (by omega), st3_ua, ua_N (by omega)]; exact h4
    · have u1 : (st3 (st3 μ K 0 4 c) K 0 5 (μ K 0 2)) K 0 1 = μ K 0 1 := by rw [st3_ua, ua_N (by omega), st3_ua, ua_N (by omega)]
      have u2 : (st3 (st3 ν 13 0 16 c) 13 0 17 (ν 13 0 13)) 13 0 14 = ν 13 0 14 := by rw [st3_ua, ua_N (by omega), st3_ua, ua_N (by omega)]
      have u3 : (st3 (st3 ν 13 0 16 c) 13 0 17 (ν 13 0 13)) 13 0 15 = ν 13 0 15 := by rw [st3_ua, ua_N (by omega), st3_ua, ua_N (by omega)]
      rw [u1, u2, u3]; exact hT
    · rw [st3_ua, ua_N (by omega), st3_ua, ua_S, st3_ua, ua_N (by omega), st3_ua, ua_S]
    · rw [st3_ua, ua_S, st3_ua, ua_S, h1, h2]
    · rw [st3_ua, ua_N (by omega), st3_ua, ua_S]; exact hc
  · exact ⟨μ, ν, fail_er z, must_er (by rw [← he]; exact z), PO.rf h, z⟩
theorem P_go (hK : K = 6 ∨ K = 8) (h : RS0 K μ ν B L) : ∃ m v, f_Reader_next K μ = some m ∧ f_R_reads ν = some v ∧ PO K μ ν m v B L ∧ m K 0 4 = μ K 0 4 := by
  obtain ⟨b, e, h⟩ := h
  obtain ⟨m, v, b', e', e1, e2, e3, e4, e5, -⟩ := P_next hK h
  exact ⟨m, v, e1, e2, ⟨⟨b', e', e3⟩, e4, fun q => by rw [← e5]; exact q⟩, e5⟩
theorem P_begin (hK : K = 6 ∨ K = 8) (hX : TX μ ν B L) : ∃ m v, f_Reader_begin K μ = some m ∧ f_R_starts ν = some v ∧ RS0 K m v B L ∧ FRD K μ m ν v ∧ m K 0 4 = 0 := by
  generalize hm : st3 (st3 (st3 μ K 0 3 0) K 0 4 0) K 0 5 (-1) = m
  generalize hv : st3 (st3 (st3 ν 13 0 12 0) 13 0 16 0) 13 0 17 (-1) = v
  generalize hm' : st3 (st3 (st3 m K 0 2 0) K 0 1 0) K 0 1 3 = m'
  have hF : FRD K μ m ν v := by rw [← hm, ← hv]; exact (((((FRD.rf.c (by omega)).c (by omega)).c (by omega)).m (by omega)).m (by omega)).m (by omega)
  have hX' := hX.fr hK hF
  have hn := C_next (e := 0) hK hX' (by rw [← hm, st3_ua, ua_N (by omega), st3_ua, ua_N (by omega), st3_ua, ua_S]; rfl) (by omega)
  obtain ⟨v2, r1, r2, r3, r4, r5, r6, r7⟩ := R_reads (e := 0) hX' (by rw [← hv, st3_ua, ua_N (by omega), st3_ua, ua_N (by omega), st3_ua, ua_S]; rfl) (by omega)
  have hb0 := adv_le (P := pB B) (L := L) (i := 0) rfl (by omega)
  have m4 : m K 0 4 = 0 := by rw [← hm, st3_ua, ua_N (by omega), st3_ua, ua_S]
  have m5 : m K 0 5 = -1 := by rw [← hm, st3_ua, ua_S]
  have v16 : v 13 0 16 = 0 := by rw [← hv, st3_ua, ua_N (by omega), st3_ua, ua_S]
  have v17 : v 13 0 17 = -1 := by rw [← hv, st3_ua, ua_S]
  generalize adv (pB B) L 0 = b' at *
  generalize hz : st3 (st3 (st3 m K 0 2 (nI b')) K 0 1 (tkK B L b')) K 0 3 (nI (tkE B L b')) = z at hn
  have hF2 : FRD K m z v v2 := ⟨fun K' q => by rw [← hz, st3_K q, st3_K q, st3_K q], fun j f q => by
    rw [← hz]
    by_cases e0 : j = 0
    · subst e0; rw [st3_ua, ua_N (by omega), st3_ua, ua_N (by omega), st3_ua, ua_N (by omega)]
    · rw [st3_J e0, st3_J e0, st3_J e0], r2, fun f q => r3 f (by omega)⟩
  have z4 : z K 0 4 = 0 := by rw [← hz, st3_ua, ua_N (by omega), st3_ua, ua_N (by omega), st3_ua, ua_N (by omega)]; exact m4
  refine ⟨z, v2, ?_, ?_, ⟨b', tkE B L b', hX'.fr hK hF2, ⟨?_, r4⟩, ⟨?_, r5⟩, ?_, ?_, ?_⟩, hF.tr hF2, z4⟩
  · unfold f_Reader_begin
    rw [nm_9, nm_9, nm_9, hm, hn, bind_s]
  · unfold f_R_starts
    rw [nm_9, nm_9, nm_9, hv, r1, bind_s]
  · rw [← hz, st3_ua, ua_N (by omega), st3_ua, ua_N (by omega), st3_ua, ua_S]
  · rw [← hz, st3_ua, ua_S]
  · rw [← hz, st3_ua, ua_N (by omega), st3_ua, ua_S, r6]
    exact tk_all (fun i hi => ⟨(hX.2.2.2 i hi).1, (hX.2.2.2 i hi).2.1⟩) hb0 (fun q => r7 q)
  · rw [z4, r3 16 (by omega), v16]
  · rw [← hz, st3_ua, ua_N (by omega), st3_ua, ua_N (by omega), st3_ua, ua_N (by omega), m5, r3 17 (by omega), v17]
theorem P_end (h : RS0 K μ ν B L) : μ K 0 1 = 0 ↔ ν 13 0 14 = 0 := by
  obtain ⟨b, e, hX, -, -, ⟨hbe, heL, hT⟩, -⟩ := h
  rcases hT with ⟨k, t, -⟩ | ⟨k, t, -⟩ | ⟨k, t, -⟩ | ⟨-, k, t, q⟩ | ⟨-, k, t⟩
  · rw [k, t]
  · rw [k, t]
  · rw [k, t]
  · rw [k, t]
    constructor
    · intro z; exact absurd z (ne_0 (by omega) (by omega))
    · intro z; exact absurd z (by decide)
  · rw [k, t]; decide
theorem P_sees {w w' : Nat} (hw : sTx w = sTx w') (hl : (sTx w).length ≤ 20) (h : RS0 K μ ν B L) : ∃ r, f_Reader_sees K w μ = some r ∧ f_R_isWord w' ν = some r ∧ (r = 0 ∨ (r = 1 ∧ μ K 0 4 = 0 ∧ μ K 0 1 = 1)) := by
  obtain ⟨b, e, hX, ⟨h1, h2⟩, ⟨h3, h4⟩, ⟨hbe, heL, hT⟩, h5, h6⟩ := h
  have hL := hX.1
  have eL : sLen w' = sLen w := by unfold sLen; rw [hw]
  have eA : ∀ x, sAt w' x = sAt w x := fun x => by unfold sAt; rw [hw]
  unfold f_Reader_sees f_R_isWord
  rw [← h5, h3, h4, h1, h2, eL]
  by_cases z : μ K 0 4 = 0
  · rw [if_pos z, if_pos z]
    by_cases k1 : μ K 0 1 = 1
    · have t1 : ν 13 0 14 = 1 ∧ b < e := by
        rcases hT with ⟨k, t, -⟩ | ⟨k, t, q, -⟩ | ⟨k, t, -⟩ | ⟨-, k, t, q⟩ | ⟨-, k, t⟩
        · rw [k] at k1; exact absurd k1 (by decide)
        · exact ⟨t, q⟩
        · rw [k] at k1; exact absurd k1 (by decide)
        · rw [k] at k1
          have := (nI_eq (a := B b) (b := 1) (by omega) (by omega)).mp k1
          omega
        · rw [k] at k1; exact absurd k1 (by decide)
      rw [if_pos k1, if_pos t1.1, nI_sub hbe]
      by_cases c : nI (e - b) = sLen w
      · rw [if_pos c, if_pos c]
        have hlen : (sTx w).length = e - b := by
          have : nI (e - b) = nI (sTx w).length := c
          exact ((nI_eq (by omega) (by omega)).mp this).symm
        refine it_fr2 (f1 := fun (s : Int32) => s_Reader_sees_35 K w s μ) (f2 := fun (s : Int32) => s_R_isWord_35 w' s ν) (a := 0) (b := 0) (fun i a b => a = nI i ∧ b = nI i) (fun r1 r2 => (r1 = .inl () ∧ r2 = .inl ()) ∨ (r1 = .inr 0 ∧ r2 = .inr 0)) (e - b) 0 (by omega) (by omega) ⟨rfl, rfl⟩ ?_ ?_ ?_
        · rintro i hi _ _ ⟨rfl, rfl⟩
          show (∃ a' b', s_Reader_sees_35 K w (nI i) μ = some (.inl a') ∧ s_R_isWord_35 w' (nI i) ν = some (.inl b') ∧ _) ∨ ∃ r1 r2, s_Reader_sees_35 K w (nI i) μ = some (.inr r1) ∧ s_R_isWord_35 w' (nI i) ν = some (.inr r2) ∧ _
          unfold s_Reader_sees_35 s_R_isWord_35
          have hb := hX.2.2.2 (b + i) (by omega)
          rw [eL, eA, ← c, if_neg (nI_ge hi (by omega)), if_neg (nI_ge hi (by omega)), h1, h2, nI_add, C_at hX (by omega), bind_s, if_pos (show b + i < L by omega), ← hw, hlen, chk_of (inb_of hi (by omega)), chk_of (inb_of (by omega) (by omega)), chk_of (inb_of hi (by omega)), nI_clamp (by omega), hb.2.2.2, nI_1]
          by_cases d : nI (B (b + i)) = sAt w (nI i)
          · rw [if_pos d]
            exact Or.inl ⟨_, _, rfl, rfl, rfl, rfl⟩
          · rw [if_neg d]
            exact Or.inr ⟨_, _, rfl, rfl, Or.inr ⟨rfl, rfl⟩⟩
        · rintro _ _ ⟨rfl, rfl⟩
          show ∃ r1 r2, s_Reader_sees_35 K w (nI (e - b)) μ = some (.inr r1) ∧ s_R_isWord_35 w' (nI (e - b)) ν = some (.inr r2) ∧ _
          unfold s_Reader_sees_35 s_R_isWord_35
          rw [eL, ← c, if_pos (nI_le (Nat.le_refl _) (by omega)), if_pos (nI_le (Nat.le_refl _) (by omega))]
          exact ⟨_, _, rfl, rfl, Or.inl ⟨rfl, rfl⟩⟩
        · intro r1 r2 q1 q2 q3
          rw [q1, q2, bind_s, bind_s]
          rcases q3 with ⟨rfl, rfl⟩ | ⟨rfl, rfl⟩
          · exact ⟨1, rfl, rfl, Or.inr ⟨rfl, z, k1⟩⟩
          · exact ⟨0, rfl, rfl, Or.inl rfl⟩
      · rw [if_neg c, if_neg c]
        exact ⟨0, rfl, rfl, Or.inl rfl⟩
    · have t1 : ν 13 0 14 ≠ 1 := by
        rcases hT with ⟨k, t, -⟩ | ⟨k, t, q, -⟩ | ⟨k, t, -⟩ | ⟨-, k, t, q⟩ | ⟨-, k, t⟩
        · rw [t]; decide
        · exact absurd k k1
        · rw [t]; decide
        · rw [t]; decide
        · rw [t]; decide
      rw [if_neg k1, if_neg t1]
      exact ⟨0, rfl, rfl, Or.inl rfl⟩
  · rw [if_neg z, if_neg z]
    exact ⟨0, rfl, rfl, Or.inl rfl⟩
theorem P_sign {c : Nat} (hc : c = 59 ∨ c = 40 ∨ c = 41) (h : RS0 K μ ν B L) : ∃ r, f_Reader_seesSign K (nI c) μ = some r ∧ f_R_isSign (nI c) ν = some r ∧ (r = 0 ∨ (r = 1 ∧ μ K 0 4 = 0)) := by
  obtain ⟨b, e, hX, ⟨h1, h2⟩, ⟨h3, h4⟩, ⟨hbe, heL, hT⟩, h5, h6⟩ := h
  have hL := hX.1
  unfold f_Reader_seesSign f_R_isSign
  rw [← h5, h2, R_seen hX (by omega), bind_s]
  by_cases z : μ K 0 4 = 0
  · rw [if_pos z, if_pos z]
    have no : ∀ k : Int32, ∀ n : Nat, k = nI n → n ≤ 3 → ¬ k = nI c := fun k n hk hn q => by
      rw [hk] at q
      have := (nI_eq (by omega) (by omega)).mp q
      omega
    rcases hT with ⟨k, t, -⟩ | ⟨k, t, -⟩ | ⟨k, t, -⟩ | ⟨q0, k, t, q⟩ | ⟨-, k, t⟩
    · rw [k, t, if_neg (no 0 0 rfl (by omega)), if_neg (by decide)]; exact ⟨0, rfl, rfl, Or.inl rfl⟩
    · rw [k, t, if_neg (no 1 1 rfl (by omega)), if_neg (by decide)]; exact ⟨0, rfl, rfl, Or.inl rfl⟩
    · rw [k, t, if_neg (no 2 2 rfl (by omega)), if_neg (by decide)]; exact ⟨0, rfl, rfl, Or.inl rfl⟩
    · rw [k, t, if_pos (show (3 : Int32) = 3 from rfl), if_pos (show b < L by omega)]
      by_cases d : nI (B b) = nI c
      · rw [if_pos d]; exact ⟨1, rfl, rfl, Or.inr ⟨rfl, z⟩⟩
      · rw [if_neg d]; exact ⟨0, rfl, rfl, Or.inl rfl⟩
    · rw [k, t, if_neg (no 3 3 rfl (by omega)), if_neg (by decide)]; exact ⟨0, rfl, rfl, Or.inl rfl⟩
  · rw [if_neg z, if_neg z]
    exact ⟨0, rfl, rfl, Or.inl rfl⟩
theorem P_takeSign {c : Nat} (hK : K = 6 ∨ K = 8) (hc : c = 59 ∨ c = 40 ∨ c = 41) (h : RS0 K μ ν B L) : ∃ m v, f_Reader_takeSign K (nI c) μ = some m ∧ f_R_takesSign (nI c) ν = some v ∧ PO K μ ν m v B L := by
  obtain ⟨r, s1, s2, s3⟩ := P_sign hc h
  have he := h.er
  unfold f_Reader_takeSign f_R_takesSign
  rw [s1, s2, bind_s, bind_s]
  rcases s3 with rfl | ⟨rfl, z⟩
  · obtain ⟨m, v, f1, f2, f3, f4⟩ := P_fail (c := 1) hK (by decide) h
    rw [if_pos rfl, f1, f2, bind_s, bind_s, snd_, goes_er (by rw [← f3.1.er]; exact f4), bind_s]
    exact ⟨m, v, rfl, rfl, f3⟩
  · obtain ⟨m, v, g1, g2, g3, -⟩ := P_go hK h
    rw [if_neg (by decide), g1, must_ok (by rw [← he]; exact z), bind_s, bind_s, snd_, goes_ok (by rw [← he]; exact z), g2, bind_s]
    exact ⟨m, v, rfl, rfl, g3⟩
theorem P_number {lo hi : Nat} (hK : K = 6 ∨ K = 8) (hlo : lo ≤ hi) (hhi : hi < 2 ^ 31) (h : RS0 K μ ν B L) : ∃ x y m v, f_Reader_takeNumber K (nI lo) (nI hi) μ = some (x, m) ∧ f_R_number (nI lo) (nI hi) ν = some (y, v) ∧ PO K μ ν m v B L ∧ (m K 0 4 = 0 → ∃ d, lo ≤ d ∧ d ≤ hi ∧ x = nI d ∧ y = nI d) := by
  have he := h.er
  have h0 := h
  obtain ⟨b, e, hX, ⟨h1, h2⟩, ⟨h3, h4⟩, ⟨hbe, heL, hT⟩, h5, h6⟩ := h
  have hL := hX.1
  by_cases z : μ K 0 4 = 0
  · have z' : ν 13 0 16 = 0 := by rw [← he]; exact z
    by_cases k2 : μ K 0 1 = 2
    · obtain ⟨t2, hbe2, hd, hv⟩ : ν 13 0 14 = 2 ∧ b < e ∧ (∀ i, b ≤ i → i < e → isD (B i)) ∧ ν 13 0 15 = nI (dv B b (e - b)) := by
        rcases hT with ⟨k, t, -⟩ | ⟨k, t, q, -⟩ | ⟨k, t, q⟩ | ⟨-, k, t, q⟩ | ⟨-, k, t⟩
        · rw [k] at k2; exact absurd k2 (by decide)
        · rw [k] at k2; exact absurd k2 (by decide)
        · exact ⟨t, q⟩
        · rw [k] at k2
          have := (nI_eq (a := B b) (b := 2) (by omega) (by omega)).mp k2
          omega
        · rw [k] at k2; exact absurd k2 (by decide)
      have lp : it (fun (s : Int32 × Int32) => s_Reader_takeNumber_30 K (nI lo) (nI hi) s.1 s.2 μ) LIM (0, nI b) = some (nI (dv B b (e - b))) := by
        refine it_fr (f := fun (s : Int32 × Int32) => s_Reader_takeNumber_30 K (nI lo) (nI hi) s.1 s.2 μ) (s := (0, nI b)) (fun i q => q = (nI (dv B b i), nI (b + i))) (fun q => q = nI (dv B b (e - b))) (e - b) 0 (by omega) (by omega) rfl ?_ ?_ (fun r q1 q2 => by rw [q1, q2])
        · rintro i hi' _ rfl
          show ∃ s', s_Reader_takeNumber_30 K (nI lo) (nI hi) (nI (dv B b i)) (nI (b + i)) μ = some (.inl s') ∧ _
          unfold s_Reader_takeNumber_30
          have hb := hX.2.2.2 (b + i) (by omega)
          have hdd := hd (b + i) (by omega) (by omega)
          unfold isD at hdd
          rw [h3, if_neg (nI_ge (by omega) (by omega)), C_at hX (by omega), bind_s, if_pos (show b + i < L by omega), dv_C hb.2.1 hdd.1 rfl, nm_9, nI_1]
          exact ⟨_, rfl, rfl⟩
        · rintro _ rfl
          show ∃ r, s_Reader_takeNumber_30 K (nI lo) (nI hi) (nI (dv B b (e - b))) (nI (b + (e - b))) μ = some (.inr r) ∧ _
          unfold s_Reader_takeNumber_30
          rw [h3, if_pos (nI_le (by omega) (by omega))]
          exact ⟨_, rfl, rfl⟩
      have hdv : dv B b (e - b) ≤ 1000000 := dv_le
      have eC : f_Reader_takeNumber K (nI lo) (nI hi) μ = (if wi (nI (dv B b (e - b))) (nI lo) (nI hi) = 0 then (((f_Reader_fail K 2 μ)).bind (fun r6 => some ((nI lo, r6)))) else (((f_Reader_next K μ)).bind (fun r5 => some ((nI (dv B b (e - b)), r5))))) := by
        unfold f_Reader_takeNumber
        rw [if_pos z, if_pos k2, nm_9, h1, lp, bind_s, C_within, bind_s]
      have eM : f_R_number (nI lo) (nI hi) ν = (f_R_must (wi (nI (dv B b (e - b))) (nI lo) (nI hi)) 2 ν).bind (fun r7 => (f_R_goesOn r7.2).bind (fun r5 => some (r7.2 13 0 15, r5))) := by
        unfold f_R_number
        rw [if_pos t2, bind_s, must_ok z', bind_s, if_neg n1_, snd_, hv, R_within, bind_s]
        cases f_R_must (wi (nI (dv B b (e - b))) (nI lo) (nI hi)) 2 ν <;> rfl
      rcases wi_01 (nI (dv B b (e - b))) (nI lo) (nI hi) with w0 | w1
      · obtain ⟨m, v, f1, f2, f3, f4⟩ := P_fail (c := 2) hK (by decide) h0
        refine ⟨_, _, m, v, by rw [eC, if_pos w0, f1, bind_s], by rw [eM, w0, f2, bind_s, snd_, goes_er (by rw [← f3.1.er]; exact f4), bind_s], f3, fun q => absurd q f4⟩
      · obtain ⟨m, v, g1, g2, g3, -⟩ := P_go hK h0
        refine ⟨_, _, m, v, by rw [eC, if_neg (by rw [w1]; decide), g1, bind_s], by rw [eM, w1, must_ok z', bind_s, snd_, goes_ok z', g2, bind_s], g3, fun _ => ?_⟩
        obtain ⟨d, d1, d2, d3⟩ := wi_1 hhi hlo w1
        exact ⟨d, d1, d2, d3, by rw [hv, d3]⟩
    · have t2 : ν 13 0 14 ≠ 2 := by
        rcases hT with ⟨k, t, -⟩ | ⟨k, t, q, -⟩ | ⟨k, t, -⟩ | ⟨-, k, t, q⟩ | ⟨-, k, t⟩
        · rw [t]; decide
        · rw [t]; decide
        · exact absurd k k2
        · rw [t]; decide
        · rw [t]; decide
      obtain ⟨m, v, f1, f2, f3, f4⟩ := P_fail (c := 1) hK (by decide) h0
      refine ⟨_, _, m, v, by unfold f_Reader_takeNumber; rw [if_pos z, if_neg k2, f1, bind_s], by unfold f_R_number; rw [if_neg t2, bind_s, f2, bind_s, if_pos rfl, bind_s, nm_9, snd_, goes_er (by rw [← f3.1.er]; exact f4), bind_s], f3, fun q => absurd q f4⟩
  · have z' : ν 13 0 16 ≠ 0 := by rw [← he]; exact z
    refine ⟨nI lo, ν 13 0 15, μ, ν, by unfold f_Reader_takeNumber; rw [if_neg z, fail_er z, bind_s], ?_, PO.rf h0, fun q => absurd q z⟩
    · unfold f_R_number
      have : ∀ q : Int32, (f_R_must q 1 ν).bind (fun r2 => ((if r2.1 = 0 then (some (r2.2)) else (((f_R_in (r2.2 13 0 15) (nI lo) (nI hi) r2.2)).bind (fun r6 => ((f_R_must r6 2 r2.2)).bind (fun r7 => some (r7.2)))) : Option (Mem))).bind (fun q3 => nm (q3 13 0 15 : Int32) (fun v4 => ((f_R_goesOn q3)).bind (fun r5 => some ((v4, r5)))))) = some (ν 13 0 15, ν) := fun q => by
        rw [must_er z', bind_s, if_pos rfl, bind_s, nm_9, snd_, goes_er z', bind_s]
      split
      · rw [bind_s]; exact this 1
      · rw [bind_s]; exact this 0
end Reader

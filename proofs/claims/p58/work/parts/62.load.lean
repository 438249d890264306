/-! The shop that the law has written is loaded. -/
section Open9
variable {μ : Mem} {s E P C O : Nat}
theorem C_rest {q : Nat} {m : Mem} : f_Owl_rest q m = some (st3 (st3 (st3 m 4 q 0 0) 4 q 1 0) 4 q 4 0) := rfl
theorem C_open (hs : s < 2) (hc : μ 3 (3 * s + 2) 1 = nI C) (hC : C ≤ 8) : ∃ m, f_Shop_openWith 0 s μ = some m ∧ (∀ K i, ¬ inS 0 K i → m K i = μ K i) ∧ (m 9 0 0 = nI s ∧ m 9 0 1 = 0 ∧ m 9 0 2 = μ 7 s 0 ∧ m 9 0 5 = 0 ∧ m 9 0 8 = 0 ∧ m 9 0 12 = 0 ∧ m 9 0 13 = 0 ∧ m 9 0 14 = 0) ∧ (∀ c, c < 8 → m 27 0 c = if c < C then μ 24 s c else 0) ∧ ∀ o, o < 5 → m 4 (5 * 0 + o) 0 = 0 ∧ m 4 (5 * 0 + o) 1 = 0 ∧ m 4 (5 * 0 + o) 4 = 0 := by
  have e72 : (st3 (st3 μ 9 0 0 (nI s)) 9 0 1 0) 7 s 0 = μ 7 s 0 := by rw [st3_K (by omega), st3_K (by omega)]
  generalize hm1 : st3 (st3 (st3 μ 9 0 0 (nI s)) 9 0 1 0) 9 0 2 (μ 7 s 0) = m1
  have a1 : ∀ K, K ≠ 9 → m1 K = μ K := fun K k => by rw [← hm1, st3_K k, st3_K k, st3_K k]
  have a2 : ∀ j, j ≠ 0 → m1 9 j = μ 9 j := fun j k => by rw [← hm1, st3_J k, st3_J k, st3_J k]
  have l1 : ∃ m2, it (fun (q : Int32 × Mem) => s_Shop_openWith_20 0 s q.1 q.2) LIM (0, m1) = some m2 ∧ (∀ K, K ≠ 27 → m2 K = m1 K) ∧ (∀ j, j ≠ 0 → m2 27 j = m1 27 j) ∧ ∀ c, c < 8 → m2 27 0 c = if c < C then μ 24 s c else 0 := by
    refine it_fr (f := fun (q : Int32 × Mem) => s_Shop_openWith_20 0 s q.1 q.2) (s := (0, m1)) (fun i q => ∃ m, q = (nI i, m) ∧ (∀ K, K ≠ 27 → m K = m1 K) ∧ (∀ j, j ≠ 0 → m 27 j = m1 27 j) ∧ ∀ c, c < i → m 27 0 c = if c < C then μ 24 s c else 0) (fun m => (∀ K, K ≠ 27 → m K = m1 K) ∧ (∀ j, j ≠ 0 → m 27 j = m1 27 j) ∧ ∀ c, c < 8 → m 27 0 c = if c < C then μ 24 s c else 0) 8 0 (by omega) (by omega) ⟨m1, rfl, fun _ _ => rfl, fun _ _ => rfl, fun _ z => absurd z (by omega)⟩ ?_ ?_ (fun r q1 q2 => ⟨r, q1, q2⟩)
    · rintro i hi _ ⟨m, rfl, b1, b2, b3⟩
      show ∃ s', s_Shop_openWith_20 0 s (nI i) m = some (.inl s') ∧ _
      have hf : f_Setup_firstCoinsOf s (nI i) m = some (if i < C then μ 24 s i else 0) := by
        unfold f_Setup_firstCoinsOf
        rw [C_has (n := C) (by rw [b1 3 (by omega), a1 3 (by omega)]; exact hc), bind_s]
        by_cases c : i < C
        · rw [ixB_in (by omega) c, if_neg (by decide), chk_of (inb_of hi (by omega)), nI_clamp (by omega), if_pos c, b1 24 (by omega), a1 24 (by omega)]
        · rw [show ixB (nI i) C = 0 by unfold ixB; rw [if_pos (Or.inr (nI_le (by omega) (by omega)))], if_pos rfl, if_neg c]
      unfold s_Shop_openWith_20
      rw [if_neg (gl_8 hi), hf, bind_s, chk_of (inb_of hi (by omega)), nI_clamp (by omega), nm_9, nI_1]
      refine ⟨_, rfl, _, rfl, fun K k => by rw [st3_K k]; exact b1 K k, fun j k => by rw [st3_J k]; exact b2 j k, fun c hc => ?_⟩
      rw [st3_ua]
      by_cases e : c = i
      · subst e; rw [ua_S]
      · rw [ua_N e]; exact b3 c (by omega)
    · rintro _ ⟨m, rfl, b1, b2, b3⟩
      show ∃ r, s_Shop_openWith_20 0 s (nI 8) m = some (.inr r) ∧ _
      unfold s_Shop_openWith_20
      rw [if_pos (lg_8 (Nat.le_refl _) (by omega))]
      exact ⟨m, rfl, b1, b2, b3⟩
  obtain ⟨m2, q1, b1, b2, b3⟩ := l1
  have l2 : ∃ m3, it (fun (q : Int32 × Mem) => s_Shop_openWith_45 0 q.1 q.2) LIM (0, m2) = some m3 ∧ (∀ K, K ≠ 4 → m3 K = m2 K) ∧ (∀ j, 5 ≤ j → m3 4 j = m2 4 j) ∧ ∀ o, o < 5 → m3 4 (5 * 0 + o) 0 = 0 ∧ m3 4 (5 * 0 + o) 1 = 0 ∧ m3 4 (5 * 0 + o) 4 = 0 := by
    refine it_fr (f := fun (q : Int32 × Mem) => s_Shop_openWith_45 0 q.1 q.2) (s := (0, m2)) (fun i q => ∃ m, q = (nI i, m) ∧ (∀ K, K ≠ 4 → m K = m2 K) ∧ (∀ j, 5 ≤ j → m 4 j = m2 4 j) ∧ ∀ o, o < i → m 4 (5 * 0 + o) 0 = 0 ∧ m 4 (5 * 0 + o) 1 = 0 ∧ m 4 (5 * 0 + o) 4 = 0) (fun m => (∀ K, K ≠ 4 → m K = m2 K) ∧ (∀ j, 5 ≤ j → m 4 j = m2 4 j) ∧ ∀ o, o < 5 → m 4 (5 * 0 + o) 0 = 0 ∧ m 4 (5 * 0 + o) 1 = 0 ∧ m 4 (5 * 0 + o) 4 = 0) 5 0 (by omega) (by omega) ⟨m2, rfl, fun _ _ => rfl, fun _ _ => rfl, fun _ z => absurd z (by omega)⟩ ?_ ?_ (fun r q1 q2 => ⟨r, q1, q2⟩)
    · rintro i hi _ ⟨m, rfl, c1, c2, c3⟩
      show ∃ s', s_Shop_openWith_45 0 (nI i) m = some (.inl s') ∧ _
      unfold s_Shop_openWith_45
      rw [if_neg (gl_5 hi), chk_of (inb_of hi (by omega)), nI_clamp (by omega), C_rest, bind_s, nI_1]
      refine ⟨_, rfl, _, rfl, fun K k => by rw [st3_K k, st3_K k, st3_K k]; exact c1 K k, fun j k => by rw [st3_J (by omega), st3_J (by omega), st3_J (by omega)]; exact c2 j k, fun o ho => ?_⟩
      by_cases e : o = i
      · subst e
        rw [st3_ua, st3_ua, st3_ua]
        exact ⟨by rw [ua_N (by omega), ua_N (by omega), ua_S], by rw [ua_N (by omega), ua_S], by rw [ua_S]⟩
      · rw [st3_J (by omega), st3_J (by omega), st3_J (by omega)]; exact c3 o (by omega)
    · rintro _ ⟨m, rfl, c1, c2, c3⟩
      show ∃ r, s_Shop_openWith_45 0 (nI 5) m = some (.inr r) ∧ _
      unfold s_Shop_openWith_45
      rw [if_pos (lg_5 (Nat.le_refl _) (by omega))]
      exact ⟨m, rfl, c1, c2, c3⟩
  obtain ⟨m3, q2, c1, c2, c3⟩ := l2
  generalize hm4 : st3 (st3 (st3 (st3 (st3 m3 9 0 5 0) 9 0 8 0) 9 0 12 0) 9 0 13 0) 9 0 14 0 = m4
  have d1 : ∀ K, K ≠ 9 → m4 K = m3 K := fun K k => by rw [← hm4, st3_K k, st3_K k, st3_K k, st3_K k, st3_K k]
  have d2 : ∀ j, j ≠ 0 → m4 9 j = m3 9 j := fun j k => by rw [← hm4, st3_J k, st3_J k, st3_J k, st3_J k, st3_J k]
  have d3 : m4 9 0 = ua (ua (ua (ua (ua (ua (ua (ua (μ 9 0) 0 (nI s)) 1 0) 2 (μ 7 s 0)) 5 0) 8 0) 12 0) 13 0) 14 0 := by
    rw [← hm4, st3_ua, st3_ua, st3_ua, st3_ua, st3_ua, c1 9 (by omega), b1 9 (by omega), ← hm1, st3_ua, st3_ua, st3_ua]
  refine ⟨m4, ?_, fun K i q => ?_, ?_, fun c hc' => ?_, fun o ho => ?_⟩
  · unfold f_Shop_openWith
    rw [nm_9, nm_9, show Int32.ofNat s = nI s from rfl, e72, nm_9, hm1, q1, bind_s, q2, bind_s, nm_9, nm_9, nm_9, nm_9, nm_9, hm4]
  · by_cases k9 : K = 9
    · subst k9
      have : i ≠ 0 := fun z => q (Or.inl ⟨Or.inl rfl, z⟩)
      rw [d2 i this, c1 9 (by omega), b1 9 (by omega), a2 i this]
    · rw [d1 K k9]
      by_cases k4 : K = 4
      · subst k4
        have : 5 ≤ i := by unfold inS at q; omega
        rw [c2 i this, b1 4 (by omega), a1 4 (by omega)]
      · rw [c1 K k4]
        by_cases k27 : K = 27
        · subst k27
          have : i ≠ 0 := by unfold inS at q; omega
          rw [b2 i this, a1 27 (by omega)]
        · rw [b1 K k27, a1 K k9]
  · rw [d3]
    refine ⟨?_, ?_, ?_, ?_, ?_, ?_, ?_, ?_⟩
    · rw [ua_N (by omega), ua_N (by omega), ua_N (by omega), ua_N (by omega), ua_N (by omega), ua_N (by omega), ua_N (by omega), ua_S]
    · rw [ua_N (by omega), ua_N (by omega), ua_N (by omega), ua_N (by omega), ua_N (by omega), ua_N (by omega), ua_S]
    · rw [ua_N (by omega), ua_N (by omega), ua_N (by omega), ua_N (by omega), ua_N (by omega), ua_S]
    · rw [ua_N (by omega), ua_N (by omega), ua_N (by omega), ua_N (by omega), ua_S]
    · rw [ua_N (by omega), ua_N (by omega), ua_N (by omega), ua_S]
    · rw [ua_N (by omega), ua_N (by omega), ua_S]
    · rw [ua_N (by omega), ua_S]
    · rw [ua_S]
  · rw [d1 27 (by omega), c1 27 (by omega)]; exact b3 c hc'
  · rw [d1 4 (by omega)]; exact c3 o ho
/-- a fresh shop is alike -/
theorem SH_fresh {m : Mem} {a : Nat → Int32} (hT : ST μ s a E P C O) (hF : (a 5 = 0 ∧ a 10 = 0 ∧ a 11 = 0 ∧ a 12 = 0 ∧ a 13 = 0 ∧ a 14 = 0) ∧ a 0 = μ 7 s 0 ∧ (∀ c, c < C → a (28 + 3 * c + 1) = μ 24 s c) ∧ (∀ o, o < 5 → a (52 + 5 * o + 1) = 0 ∧ a (52 + 5 * o + 2) = 0) ∧ ∀ o, o < O → a (52 + 5 * o + 3) = -1)
    (h9 : m 9 0 0 = nI s ∧ m 9 0 1 = 0 ∧ m 9 0 2 = μ 7 s 0 ∧ m 9 0 5 = 0 ∧ m 9 0 8 = 0 ∧ m 9 0 12 = 0 ∧ m 9 0 13 = 0 ∧ m 9 0 14 = 0) (h27 : ∀ c, c < 8 → m 27 0 c = if c < C then μ 24 s c else 0) (h4 : ∀ o, o < 5 → m 4 (5 * 0 + o) 0 = 0 ∧ m 4 (5 * 0 + o) 1 = 0 ∧ m 4 (5 * 0 + o) 4 = 0) : SH m 0 a E P C O 0 0 0 0 := by
  obtain ⟨⟨f5, f10, f11, f12, f13, f14⟩, f0, fc, fo, fo3⟩ := hF
  obtain ⟨g0, g1, g2, g5, g8, g12, g13, g14⟩ := h9
  have hC : C ≤ 8 := hT.2.2.2.1
  have hO : O ≤ 5 := hT.2.2.2.2.1
  refine ⟨⟨by omega, by omega, by omega, by omega, g1, f5, g2.trans f0.symm, g5, f10, g8, f12, g12, f11, g13.trans f13.symm, g14.trans f14.symm⟩, fun p hp => absurd hp (by omega), ⟨fun o ho => ?_, fun o _ ho => h4 o ho⟩, ⟨fun c hc => ?_, fun c h1 h2 => ?_⟩, ⟨fun k hk => absurd hk (by omega), fun k _ hk => absurd hk (by omega)⟩, fun i hi => absurd hi (by omega)⟩
  · have q := h4 o (by omega)
    have r := fo o (by omega)
    exact ⟨⟨0, by omega, q.1, r.1⟩, q.2.1.trans r.2.symm, Or.inr ⟨q.2.2, fo3 o ho, r.2⟩⟩
  · rw [h27 c (by omega), if_pos hc, fc c hc]
  · rw [h27 c h2, if_neg (by omega)]
end Open9
theorem RD.begin {m : Mem} {B : Nat → Nat} {L : Nat} {T : List Nat} (hT : TX m m B L) (hA : AT9 B L 0 T) (hb : nbl T) : ∃ m', f_Reader_begin 8 m = some m' ∧ RD m' T ∧ (∀ K, K ≠ 8 → m' K = m K) ∧ m' 8 0 5 = -1 := by
  have g8 : (st3 (st3 (st3 m 8 0 3 0) 8 0 4 0) 8 0 5 (-1)) 8 0 = ua (ua (ua (m 8 0) 3 0) 4 0) 5 (-1) := by rw [st3_ua, st3_ua, st3_ua]
  have gK : ∀ K, K ≠ 8 → (st3 (st3 (st3 m 8 0 3 0) 8 0 4 0) 8 0 5 (-1)) K = m K := fun K h => by rw [st3_K h, st3_K h, st3_K h]
  generalize hm1 : st3 (st3 (st3 m 8 0 3 0) 8 0 4 0) 8 0 5 (-1) = m1 at g8 gK
  obtain ⟨m', e1, e2, e3⟩ := next_at (m := m1) (e := 0) (b := 0) (hT.of8 (gK 11 (by omega)) (gK 20 (by omega))) (by rw [g8, ua_N (by omega), ua_N (by omega), ua_S]; rfl) (Nat.zero_le _) (by rw [g8, ua_N (by omega), ua_S]) (blank_at (sp := []) (r := T) hA (Or.inl rfl) hb) hA
  refine ⟨m', ?_, e2, fun K h => (e3.1 K h).trans (gK K h), ?_⟩
  · unfold f_Reader_begin
    rw [nm_9, nm_9, nm_9, hm1, e1, bind_s]
  · rw [e3.2 5 (Or.inr (by omega)), g8, ua_S]
/-- the whole text -/
def t_all (a1 a2 a3 a4 a5 E P C O : Nat) (pu fa sp : Nat → Nat) : List Nat := t_shop a1 a2 a3 a4 a5 (t_names [101, 118, 101, 110, 116] 5 E 0 (t_names [112, 108, 97, 99, 101] 16 P 0 (t_cus pu fa C 0 (t_owls sp O 0 []))))
/-- numbers that the law picks -/
def NUM (a1 a2 a3 a4 a5 E P C O : Nat) (pu fa sp : Nat → Nat) : Prop := (a1 ≤ 99999 ∧ (1 ≤ a2 ∧ a2 ≤ 9) ∧ a3 ≤ 99 ∧ a4 ≤ 200 ∧ a5 ≤ 200) ∧ ((1 ≤ E ∧ E ≤ 6) ∧ (1 ≤ P ∧ P ≤ 6) ∧ C ≤ 8 ∧ O ≤ 5) ∧ (∀ k, k < C → pu k ≤ 9999) ∧ (∀ k, k < C → 1 ≤ fa k ∧ fa k ≤ 30) ∧ ∀ k, k < O → 1 ≤ sp k ∧ sp k ≤ 9
/-- the law's own row when it begins -/
def ROW0 (a1 a2 a3 a4 a5 E P C O : Nat) (pu fa sp : Nat → Nat) (a : Nat → Int32) : Prop := (a 0 = nI a1 ∧ a 1 = nI a2 ∧ a 2 = nI a3 ∧ a 3 = nI a4 ∧ a 4 = nI a5 ∧ a 6 = nI E ∧ a 7 = nI P ∧ a 8 = nI C ∧ a 9 = nI O) ∧ (a 5 = 0 ∧ a 10 = 0 ∧ a 11 = 0 ∧ a 12 = 0 ∧ a 13 = 0 ∧ a 14 = 0) ∧ (∀ e, e < E → a (16 + e) = nI (e27 [5, e + 1])) ∧ (∀ p, p < P → a (22 + p) = nI (e27 [16, p + 1])) ∧ (∀ c, c < C → a (28 + 3 * c + 0) = nI (e27 [3, c + 1]) ∧ a (28 + 3 * c + 1) = nI (pu c) ∧ a (28 + 3 * c + 2) = nI (fa c)) ∧ (∀ o, o < O → a (52 + 5 * o + 0) = nI (sp o) ∧ a (52 + 5 * o + 3) = -1) ∧ (∀ o, o < 5 → a (52 + 5 * o + 1) = 0 ∧ a (52 + 5 * o + 2) = 0) ∧ a 15 = nI a1 + sm (fun c => nI (pu c)) C
theorem oth_of {wi : Nat} {w r : List Nat} (h0 : w ≠ []) (h1 : ∀ x ∈ w, isL x) (h2 : w.length ≤ 20) (h3 : (sTx wi).length ≤ 20) (h4 : (sTx wi).length ≠ w.length ∨ (sTx wi).getD 0 0 ≠ nI (w.getD 0 0)) : OTH wi (w ++ ([32] ++ r)) := Or.inr ⟨w, r, rfl, h0, h1, h2, h3, h4⟩
theorem oth_owls {wi O : Nat} {sp : Nat → Nat} (h3 : (sTx wi).length ≤ 20) (h4 : (sTx wi).length ≠ 3) : OTH wi (t_owls sp O 0 []) := by
  cases O with
  | zero => exact Or.inl rfl
  | succ O => exact oth_of (by simp) (by decide) (by decide) h3 (Or.inl h4)
theorem oth_cus {wi O C : Nat} {pu fa sp : Nat → Nat} (h3 : (sTx wi).length ≤ 20) (h4 : (sTx wi).length ≠ 3 ∧ (sTx wi).length ≠ 8) : OTH wi (t_cus pu fa C 0 (t_owls sp O 0 [])) := by
  cases C with
  | zero => exact oth_owls h3 h4.1
  | succ C => exact oth_of (by simp) (by decide) (by decide) h3 (Or.inl h4.2)
theorem oth_pl {P : Nat} {r : List Nat} (hP : 1 ≤ P) : OTH 3 (t_names [112, 108, 97, 99, 101] 16 P 0 r) := by
  obtain ⟨Q, rfl⟩ : ∃ Q, P = Q + 1 := ⟨P - 1, by omega⟩
  exact oth_of (by simp) (by decide) (by decide) (by decide) (Or.inr (by decide))
theorem NM_of {p q : Nat} {x y : Int32} (hp : 1 ≤ p ∧ p ≤ 26) (hq : q < 26) (hx : x = nI (e5 [p, q + 1])) (hy : y = nI (e27 [p, q + 1])) : NM x y := ⟨[p, q + 1], okw2 hp hq, hx, hy⟩
/-- the class reads what the law has written -/
theorem T_read {m : Mem} {B : Nat → Nat} {L s a1 a2 a3 a4 a5 E P C O : Nat} {pu fa sp : Nat → Nat} (hT : TX m m B L) (hA : AT9 B L 0 (t_all a1 a2 a3 a4 a5 E P C O pu fa sp)) (hN : NUM a1 a2 a3 a4 a5 E P C O pu fa sp) (hs : s < 2) : ∃ m', f_SetupReader_readInto s m = some (0, m') ∧ m' 8 0 4 = 0 ∧ m' 8 0 5 = -1 ∧ (∀ K i, K ≠ 8 → ¬ ((K = 3 ∨ K = 23) ∧ i / 3 = s) → ¬ ((K = 7 ∨ (24 ≤ K ∧ K ≤ 26)) ∧ i = s) → m' K i = m K i) ∧ m' 7 s 0 = nI a1 ∧ (∀ c, c < C → m' 24 s c = nI (pu c)) ∧ m' 3 (3 * s + 2) 1 = nI C ∧ ∀ a, ROW0 a1 a2 a3 a4 a5 E P C O pu fa sp a → ST m' s a E P C O := by
  obtain ⟨⟨n1, n2, n3, n4, n5⟩, ⟨⟨hE1, hE⟩, ⟨hP1, hP⟩, hC, hO⟩, hpu, hfa, hsp⟩ := hN
  have g0 : ∀ K, K ≠ 3 → K ≠ 7 → (st3 (st3 (st3 (st3 m 3 (3 * s) 1 0) 3 (3 * s + 1) 1 0) 3 (3 * s + 2) 1 0) 7 s 11 0) K = m K := fun K h3 h7 => by rw [st3_K h7, st3_K h3, st3_K h3, st3_K h3]
  have g3 : ∀ j, j / 3 ≠ s → (st3 (st3 (st3 (st3 m 3 (3 * s) 1 0) 3 (3 * s + 1) 1 0) 3 (3 * s + 2) 1 0) 7 s 11 0) 3 j = m 3 j := fun j h => by rw [st3_K (by omega), st3_J (by omega), st3_J (by omega), st3_J (by omega)]
  have g7 : ∀ j, j ≠ s → (st3 (st3 (st3 (st3 m 3 (3 * s) 1 0) 3 (3 * s + 1) 1 0) 3 (3 * s + 2) 1 0) 7 s 11 0) 7 j = m 7 j := fun j h => by rw [st3_J h, st3_K (by omega), st3_K (by omega), st3_K (by omega)]
  have h30 : (st3 (st3 (st3 (st3 m 3 (3 * s) 1 0) 3 (3 * s + 1) 1 0) 3 (3 * s + 2) 1 0) 7 s 11 0) 3 (3 * s) 1 = 0 := by rw [st3_K (by omega), st3_J (by omega), st3_J (by omega), st3_ua, ua_S]
  have h31 : (st3 (st3 (st3 (st3 m 3 (3 * s) 1 0) 3 (3 * s + 1) 1 0) 3 (3 * s + 2) 1 0) 7 s 11 0) 3 (3 * s + 1) 1 = 0 := by rw [st3_K (by omega), st3_J (by omega), st3_ua, ua_S]
  have h32 : (st3 (st3 (st3 (st3 m 3 (3 * s) 1 0) 3 (3 * s + 1) 1 0) 3 (3 * s + 2) 1 0) 7 s 11 0) 3 (3 * s + 2) 1 = 0 := by rw [st3_K (by omega), st3_ua, ua_S]
  have h711 : (st3 (st3 (st3 (st3 m 3 (3 * s) 1 0) 3 (3 * s + 1) 1 0) 3 (3 * s + 2) 1 0) 7 s 11 0) 7 s 11 = 0 := by rw [st3_ua, ua_S]
  generalize hm0 : st3 (st3 (st3 (st3 m 3 (3 * s) 1 0) 3 (3 * s + 1) 1 0) 3 (3 * s + 2) 1 0) 7 s 11 0 = m0 at g0 g3 g7 h30 h31 h32 h711
  have gO : gd (t_owls sp O 0 []) := gd_owls (fun x hx => by cases hx)
  have gC : gd (t_cus pu fa C 0 (t_owls sp O 0 [])) := gd_cus gO
  have gP : gd (t_names [112, 108, 97, 99, 101] 16 P 0 (t_cus pu fa C 0 (t_owls sp O 0 []))) := gd_names (by simp) (by decide) gC
  have gE : gd (t_names [101, 118, 101, 110, 116] 5 E 0 (t_names [112, 108, 97, 99, 101] 16 P 0 (t_cus pu fa C 0 (t_owls sp O 0 [])))) := gd_names (by simp) (by decide) gP
  obtain ⟨m1, c1, r1, k1, k1b⟩ := RD.begin (hT.of8 (g0 11 (by omega) (by omega)) (g0 20 (by omega) (by omega))) hA (gd.nbl (gd_w (w := [115, 104, 111, 112]) (by simp) (by decide)))
  obtain ⟨m2, c2, r2, ⟨v0, v1, v2, v3, v4⟩, v5, v7, k2, k2b⟩ := RD.shop (s := s) r1 n1 n2 n3 n4 n5 gE
  obtain ⟨m3, c3, r3, u3, w3, k3⟩ := r2.names (wi := 3) (j := 3 * s) rfl (by simp) (by decide) (by decide) (by omega) hE1 hE gP (oth_pl hP1) (by rw [k2 3 (by omega) (by omega), k1 3 (by omega)]; exact h30)
  obtain ⟨m4, c4, r4, u4, w4, k4⟩ := r3.names (wi := 4) (j := 3 * s + 1) rfl (by simp) (by decide) (by decide) (by omega) hP1 hP gC (oth_cus (by decide) (by decide)) (by rw [k3.1 3 _ (by omega) (by omega), k2 3 (by omega) (by omega), k1 3 (by omega)]; exact h31)
  obtain ⟨m5, c5, r5, u5, w5, k5⟩ := r4.customers (s := s) hC hpu hfa gO (oth_owls (by decide) (by decide)) (by rw [k4.1 3 _ (by omega) (by omega), k3.1 3 _ (by omega) (by omega), k2 3 (by omega) (by omega), k1 3 (by omega)]; exact h32)
  have h711' : m5 7 s 11 = 0 := by rw [k5.1 7 s (by omega) (by omega) (by omega), k4.1 7 s (by omega) (by omega), k3.1 7 s (by omega) (by omega), v5 11 (by omega), k1 7 (by omega)]; exact h711
  obtain ⟨m6, c6, r6, u6, w6, k6⟩ := r5.owls (s := s) hO hsp h711'
  obtain ⟨B6, L6, b6, -, x2, -, x4, -, x6⟩ := id r6
  have hk6 : m6 8 0 1 = 0 := by
    rw [x4]
    unfold tkK
    rw [if_neg (by have : b6 = L6 := x2.1; omega)]
  have f7 : ∀ f, f ≠ 11 → m6 7 s f = m2 7 s f := fun f hf => by rw [k6.2.1 f hf, k5.1 7 s (by omega) (by omega) (by omega), k4.1 7 s (by omega) (by omega), k3.1 7 s (by omega) (by omega)]
  have e24 : ∀ c, c < C → m6 24 s c = nI (pu c) := fun c hc => by rw [k6.1 24 s (by omega) (by omega) (by omega)]; exact (w5 c hc).2.1
  refine ⟨m6, ?_, x6, ?_, fun K i a b c => ?_, ?_, e24, (by rw [k6.1 3 _ (by omega) (by omega) (by omega)]; exact u5), fun a hR => ?_⟩
  · unfold f_SetupReader_readInto f_Setup_clear f_Reader_seesEnd
    rw [nm_9, nm_9, nm_9, nm_9, hm0, bind_s, c1, bind_s, c2, bind_s, c3, bind_s, c4, bind_s, c5, bind_s, c6, bind_s, hk6, if_pos rfl, bind_s, if_neg (by decide), x6]
  · rw [k6.2.2 5 (by omega), k5.2 5 (by omega), k4.2 5 (by omega), k3.2 5 (by omega), k2b 5 (by omega)]
    exact k1b
  · rw [k6.1 K i a (by omega) (by omega), k5.1 K i a (by omega) (by omega), k4.1 K i a (by omega), k3.1 K i a (by omega)]
    by_cases e7 : K = 7
    · subst e7
      have e9 : m2 7 i = m1 7 i := by
        have hne : i ≠ s := fun z => c ⟨Or.inl rfl, z⟩
        exact v7 i hne
      rw [e9, k1 7 (by omega)]
      exact g7 i (fun z => c ⟨Or.inl rfl, z⟩)
    · rw [k2 K a e7, k1 K a]
      by_cases e3 : K = 3
      · subst e3
        exact g3 i (fun z => b ⟨Or.inl rfl, z⟩)
      · rw [g0 K e3 e7]
  · rw [f7 0 (by omega)]; exact v0
  · obtain ⟨⟨q0, q1, q2, q3, q4, q6, q7, q8, q9⟩, -, qe, qp, qc, qo, -, q15⟩ := hR
    refine ⟨hs, hE, hP, hC, hO, ⟨?_, q6⟩, ⟨?_, q7⟩, ⟨?_, q8⟩, ⟨u6, q9⟩, ⟨a2, n2.2, ?_, q1⟩, ?_, ?_, ?_, fun e he => ?_, fun p hp => ?_, fun c hc => ⟨?_, fa c, (hfa c hc).1, (hfa c hc).2, ?_, (qc c hc).2.2⟩, fun o ho => ⟨sp o, (hsp o ho).1, (hsp o ho).2, w6 o ho, (qo o ho).1⟩, ?_⟩
    · rw [k6.1 3 _ (by omega) (by omega) (by omega), k5.1 3 _ (by omega) (by omega) (by omega), k4.1 3 _ (by omega) (by omega)]; exact u3
    · rw [k6.1 3 _ (by omega) (by omega) (by omega), k5.1 3 _ (by omega) (by omega) (by omega)]; exact u4
    · rw [k6.1 3 _ (by omega) (by omega) (by omega)]; exact u5
    · rw [f7 1 (by omega)]; exact v1
    · rw [f7 2 (by omega), q2]; exact v2
    · rw [f7 3 (by omega), q3]; exact v3
    · rw [f7 4 (by omega), q4]; exact v4
    · refine NM_of (p := 5) (q := e) (by omega) (by omega) ?_ (qe e he)
      rw [k6.1 23 _ (by omega) (by omega) (by omega), k5.1 23 _ (by omega) (by omega) (by omega), k4.1 23 _ (by omega) (by omega)]; exact w3 e he
    · refine NM_of (p := 16) (q := p) (by omega) (by omega) ?_ (qp p hp)
      rw [k6.1 23 _ (by omega) (by omega) (by omega), k5.1 23 _ (by omega) (by omega) (by omega)]; exact w4 p hp
    · refine NM_of (p := 3) (q := c) (by omega) (by omega) ?_ (qc c hc).1
      rw [k6.1 23 _ (by omega) (by omega) (by omega)]; exact (w5 c hc).1
    · rw [k6.1 25 s (by omega) (by omega) (by omega)]; exact (w5 c hc).2.2
    · rw [q15, f7 0 (by omega), v0, sm_congr (g' := m6 24 s) (fun c hc => (e24 c hc).symm)]
/-- it is loaded -/
theorem T_load {m : Mem} {B : Nat → Nat} {L s a1 a2 a3 a4 a5 E P C O : Nat} {pu fa sp : Nat → Nat} (hT : TX m m B L) (hA : AT9 B L 0 (t_all a1 a2 a3 a4 a5 E P C O pu fa sp)) (hN : NUM a1 a2 a3 a4 a5 E P C O pu fa sp) (hs : s < 2) (h3 : m 12 0 3 = nI s) (h4 : m 12 0 4 = nI (1 - s)) : ∃ m', f_P_load m = some (0, m') ∧ m' 12 0 11 = -1 ∧ m' 12 0 3 = nI (1 - s) ∧ m' 2 0 1 = 0 ∧ m' 9 0 0 = nI (1 - s) ∧ m' 34 = m 34 ∧ ∀ a, ROW0 a1 a2 a3 a4 a5 E P C O pu fa sp a → ST m' (1 - s) a E P C O ∧ SH m' 0 a E P C O 0 0 0 0 := by
  have hs2 : 1 - s < 2 := by omega
  obtain ⟨m1, e1, x4, x5, hF, h70, h24, hc3, hST⟩ := T_read (s := 1 - s) hT hA hN hs2
  have hC : C ≤ 8 := hN.2.1.2.2.1
  have d3 : m1 12 0 = m 12 0 := hF 12 0 (by omega) (by omega) (by omega)
  generalize hm2 : st3 m1 11 0 1 0 = m2
  have k2 : ∀ K, K ≠ 11 → m2 K = m1 K := fun K q => by rw [← hm2, st3_K q]
  have m2_12 : m2 12 0 = m 12 0 := by rw [k2 12 (by omega), d3]
  generalize hm3 : st3 (st3 m2 12 0 3 (nI (1 - s))) 12 0 4 (nI s) = m3
  have k3 : ∀ K, K ≠ 12 → m3 K = m2 K := fun K q => by rw [← hm3, st3_K q, st3_K q]
  have m3_3 : m3 12 0 3 = nI (1 - s) := by rw [← hm3, st3_ua, ua_N (by omega), st3_ua, ua_S]
  obtain ⟨m4, o1, o2, o3, o4, o5⟩ := C_open (μ := m3) (s := 1 - s) (C := C) hs2 (by rw [k3 3 (by omega), k2 3 (by omega)]; exact hc3) hC
  generalize hm5 : st3 m4 2 0 1 0 = m5
  have lp : ∃ m6, it (fun (q : Int32 × Mem) => s_P_openShop_63 0 q.1 q.2) LIM (0, m5) = some m6 ∧ (∀ K, K ≠ 36 → m6 K = m5 K) := by
    refine it_fr (f := fun (q : Int32 × Mem) => s_P_openShop_63 0 q.1 q.2) (s := (0, m5)) (fun i q => ∃ m, q = (nI i, m) ∧ (∀ K, K ≠ 36 → m K = m5 K)) (fun m => (∀ K, K ≠ 36 → m K = m5 K)) 2 0 (by omega) (by omega) ⟨m5, rfl, fun _ _ => rfl⟩ ?_ ?_ (fun r q1 q2 => ⟨r, q1, q2⟩)
    · rintro i hi _ ⟨m, rfl, c1⟩
      show ∃ s', s_P_openShop_63 0 (nI i) m = some (.inl s') ∧ _
      unfold s_P_openShop_63
      rw [if_neg (show ¬ (2 : Int32) ≤ nI i from nI_ge (b := 2) hi (by omega)), chk_of (inb_of hi (by omega)), nI_clamp (by omega), nm_9, nI_1]
      exact ⟨_, rfl, _, rfl, fun K k => by rw [st3_K k]; exact c1 K k⟩
    · rintro _ ⟨m, rfl, c1⟩
      show ∃ r, s_P_openShop_63 0 (nI 2) m = some (.inr r) ∧ _
      unfold s_P_openShop_63
      rw [if_pos (by decide)]
      exact ⟨m, rfl, c1⟩
  obtain ⟨m6, p1, p2⟩ := lp
  have k5 : ∀ K, K ≠ 2 → m5 K = m4 K := fun K q => by rw [← hm5, st3_K q]
  have kk : ∀ K i, K ≠ 36 → K ≠ 2 → ¬ inS 0 K i → K ≠ 12 → K ≠ 11 → m6 K i = m1 K i := fun K i a1 a2 a3 a4 a5 => by rw [p2 K a1, k5 K a2, o2 K i a3, k3 K a4, k2 K a5]
  have kS : ∀ K, setK K → m6 K = m1 K := fun K q => by
    funext i
    exact kk K i (by unfold setK at q; omega) (by unfold setK at q; omega) (by unfold inS; unfold setK at q; omega) (by unfold setK at q; omega) (by unfold setK at q; omega)
  have k12 : m6 12 0 = m3 12 0 := by rw [p2 12 (by omega), k5 12 (by omega), o2 12 0 (by unfold inS; omega)]
  have eop : f_P_openShop m = some (0, m6) := by
    unfold f_P_openShop f_Text_shortenTo
    have s3 : m2 12 0 3 = nI s := by rw [m2_12]; exact h3
    have s4 : m2 12 0 4 = nI (1 - s) := by rw [m2_12]; exact h4
    rw [h4, nI_clamp (by omega), chk_of (decide_eq_true hs2), e1, bind_s, nm_9]
    show ((some (st3 m1 11 0 1 0) : Option Mem)).bind _ = _
    rw [hm2, bind_s, if_pos rfl, s3, s4, nI_clamp (by omega), nI_clamp (by omega), chk_of (decide_eq_true hs), chk_of (decide_eq_true hs2), show Int32.ofNat (1 - s) = nI (1 - s) from rfl, show Int32.ofNat s = nI s from rfl, nm_9, nm_9, hm3, m3_3, nI_clamp (by omega), chk_of (decide_eq_true hs2), o1, bind_s, nm_9, hm5]
    show ((it (fun (q : Int32 × Mem) => s_P_openShop_63 0 q.1 q.2) LIM (0, m5)).bind _) = _
    rw [p1, bind_s]
  generalize hm7 : st3 (st3 m6 12 0 10 0) 12 0 11 (-1) = m7
  have k7 : ∀ K, K ≠ 12 → m7 K = m6 K := fun K q => by rw [← hm7, st3_K q, st3_K q]
  have e85 : (st3 m6 12 0 10 0) 8 0 5 = -1 := by rw [st3_K (by omega), kk 8 0 (by omega) (by omega) (by unfold inS; omega) (by omega) (by omega)]; exact x5
  refine ⟨m7, ?_, ?_, ?_, ?_, ?_, ?_, fun a hR => ⟨?_, ?_⟩⟩
  · unfold f_P_load
    rw [eop, bind_s]
    show nm (st3 m6 12 0 10 0) _ = _
    rw [nm_9, e85, nm_9, hm7]
  · rw [← hm7, st3_ua, ua_S]
  · rw [← hm7, st3_ua, ua_N (by omega), st3_ua, ua_N (by omega), k12, m3_3]
  · rw [k7 2 (by omega), p2 2 (by omega), ← hm5, st3_ua, ua_S]
  · rw [k7 9 (by omega), p2 9 (by omega), k5 9 (by omega)]; exact o3.1
  · rw [k7 34 (by omega)]
    funext i
    rw [kk 34 i (by omega) (by omega) (by unfold inS; omega) (by omega) (by omega), hF 34 i (by omega) (by omega) (by omega)]
  · exact (hST a hR).mem (fun K q => by rw [k7 K (by unfold setK at q; omega), kS K q])
  · obtain ⟨⟨q0, -⟩, ⟨q5, q10, q11, q12, q13, q14⟩, -, -, qc, qo, qo5, -⟩ := id hR
    refine SH_fresh (μ := m1) (hST a hR) ⟨⟨q5, q10, q11, q12, q13, q14⟩, q0.trans h70.symm, fun c hc => (qc c hc).2.1.trans (h24 c hc).symm, qo5, fun o ho => (qo o ho).2⟩ ?_ ?_ ?_
    · rw [k7 9 (by omega), p2 9 (by omega), k5 9 (by omega)]
      have : m3 7 (1 - s) 0 = m1 7 (1 - s) 0 := by rw [k3 7 (by omega), k2 7 (by omega)]
      rw [this] at o3
      exact o3
    · intro c hc
      rw [k7 27 (by omega), p2 27 (by omega), k5 27 (by omega), o4 c hc, k3 24 (by omega), k2 24 (by omega)]
    · intro o ho
      rw [k7 4 (by omega), p2 4 (by omega), k5 4 (by omega)]
      exact o5 o ho

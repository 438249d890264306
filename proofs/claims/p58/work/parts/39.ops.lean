/-! A request, days that pass, a happening: in the class and in the model. -/
theorem pig : ∀ (n w : Nat) (f : Nat → Nat), (∀ k, k < w → f k < n) → (∀ k k', k < w → k' < w → f k = f k' → k = k') → w ≤ n
  | 0, w, f, h, _ => by
    apply Classical.byContradiction
    intro z
    have := h 0 (by omega)
    omega
  | n + 1, w, f, h, hi => by
    by_cases e : ∃ k, k < w ∧ f k = n
    · obtain ⟨k0, hk0, e0⟩ := e
      have := pig n (w - 1) (fun k => if k = k0 then f (w - 1) else f k) (fun k hk => by
        show (if k = k0 then f (w - 1) else f k) < n
        split
        · rename_i ek
          have h1 := h (w - 1) (by omega)
          have h2 : f (w - 1) ≠ n := fun z => by have := hi (w - 1) k0 (by omega) hk0 (by omega); omega
          omega
        · rename_i ek
          have h1 := h k (by omega)
          have h2 : f k ≠ n := fun z => ek (hi k k0 (by omega) hk0 (by omega))
          omega) (fun k k' hk hk' z => by
        have z' : (if k = k0 then f (w - 1) else f k) = (if k' = k0 then f (w - 1) else f k') := z
        split at z' <;> split at z'
        · omega
        · have := hi (w - 1) k' (by omega) (by omega) z'; omega
        · have := hi k (w - 1) (by omega) (by omega) z'; omega
        · exact hi k k' (by omega) (by omega) z')
      omega
    · have := pig n w f (fun k hk => by
        have h1 := h k hk
        have h2 : f k ≠ n := fun z => e ⟨k, hk, z⟩
        omega) hi
      omega
theorem SHQ.room {qu a : Nat → Int32} {n w p : Nat} (h : SHQ qu a n w) (hn : n ≤ 24) (hp : p < n) (hq : ∀ k, k < w → a (500 + k) ≠ nI p) : w < n := by
  have hv : ∀ k, k < w → (a (500 + k)).toNatClampNeg < n ∧ a (500 + k) = nI (a (500 + k)).toNatClampNeg := fun k hk => by
    obtain ⟨-, v, hv, e⟩ := h.1 k hk
    rw [e, nI_clamp (by omega)]
    exact ⟨hv, rfl⟩
  have := pig n (w + 1) (fun k => if k < w then (a (500 + k)).toNatClampNeg else p) (fun k hk => by
    show (if k < w then (a (500 + k)).toNatClampNeg else p) < n
    split
    · exact (hv k (by assumption)).1
    · exact hp) (fun k k' hk hk' z => by
    have z' : (if k < w then (a (500 + k)).toNatClampNeg else p) = (if k' < w then (a (500 + k')).toNatClampNeg else p) := z
    split at z' <;> split at z'
    · rename_i h1 h2
      exact h.2 k k' h1 h2 (by rw [(hv k h1).2, (hv k' h2).2, z'])
    · rename_i h1 h2
      exact absurd (by rw [(hv k h1).2, z']) (hq k h1)
    · rename_i h1 h2
      exact absurd (by rw [(hv k' h2).2, ← z']) (hq k' h2)
    · omega)
  omega
section Ops
variable {c0 : Int32} {μ ν v : Mem} {j s b E P C O n w t dd : Nat}
theorem SH_addQ {a : Nat → Int32} {p : Nat} (h : SH μ j a E P C O n w t dd) (hw : w < 24) (hC : C ≤ 8) (hO : O ≤ 5) (hp : p < n) (hq : ∀ k, k < w → a (500 + k) ≠ nI p) : SH (st3 (st3 μ 30 j w (nI p)) 9 j 8 (nI (w + 1))) j (ua (ua a (500 + w) (nI p)) 12 (nI (w + 1))) E P C O n (w + 1) t dd := by
  obtain ⟨h1, h2, h3, h4, h5, h6⟩ := h
  have hn : n ≤ 24 := h1.1
  have ht : t ≤ 60 := h1.2.2.1
  have A : ∀ k, k < 500 → k ≠ 12 → ua (ua a (500 + w) (nI p)) 12 (nI (w + 1)) k = a k := fun k h1 h2 => by rw [ua_N h2, ua_N (by omega)]
  unfold SH
  rw [st3_ua, st3_K (show 5 ≠ 9 by omega), st3_K (show 4 ≠ 9 by omega), st3_K (show 27 ≠ 9 by omega), st3_K (show 30 ≠ 9 by omega), st3_K (show 31 ≠ 9 by omega), st3_K (show 32 ≠ 9 by omega), st3_K (show 33 ≠ 9 by omega),
    st3_K (show 9 ≠ 30 by omega), st3_K (show 5 ≠ 30 by omega), st3_K (show 4 ≠ 30 by omega), st3_K (show 27 ≠ 30 by omega), st3_K (show 31 ≠ 30 by omega), st3_K (show 32 ≠ 30 by omega), st3_K (show 33 ≠ 30 by omega), st3_ua]
  refine ⟨?_, fun p hp => (h2 p hp).cong (fun _ _ => rfl) (fun f hf => A _ (by omega) (by omega)), ⟨fun o ho => (h3.1 o ho).cong (fun _ _ => rfl) (fun f hf => A _ (by omega) (by omega)), h3.2⟩, ⟨fun c hc => by rw [A _ (by omega) (by omega)]; exact h4.1 c hc, h4.2⟩, ⟨fun k hk => ?_, fun k k' hk hk' => ?_⟩, fun i hi => by rw [A _ (by omega) (by omega), A _ (by omega) (by omega), A _ (by omega) (by omega)]; exact h6 i hi⟩
  · exact Ss_wait (by omega) (h1.ua (k := 500 + w) (by omega))
  · by_cases e : k = w
    · subst e
      rw [ua_S, ua_N (by omega), ua_S]
      exact ⟨rfl, p, hp, rfl⟩
    · rw [ua_N e, ua_N (by omega), ua_N (by omega)]
      exact h5.1 k (by omega)
  · by_cases e : k = w <;> by_cases e' : k' = w
    · intro _; omega
    · subst e
      rw [ua_N (by omega), ua_S, ua_N (by omega), ua_N (by omega)]
      exact fun z => absurd z.symm (hq k' (by omega))
    · subst e'
      rw [ua_N (by omega), ua_N (by omega), ua_N (by omega), ua_S]
      exact fun z => absurd z (hq k (by omega))
    · rw [ua_N (by omega), ua_N (by omega), ua_N (by omega), ua_N (by omega)]
      exact h5.2 k k' (by omega) (by omega)
theorem inq_m1 {a : Nat → Int32} {x : Int32} (hw : w ≤ 24) (h : inq a x w = -1) : ∀ k, k < w → a (500 + k) ≠ x := by
  intro k hk
  rcases fdI_sp (P := fun k => decide (a (500 + k) = x)) (n := w) (i := 0) with ⟨-, h2⟩ | ⟨q, -, h1, -, h4, -⟩
  · exact of_decide_eq_false (h2 k (by omega) (by omega))
  · exact absurd (h4.symm.trans h) (ne_m1 (by omega))
theorem SH_addN {a : Nat → Int32} {e : Nat} {x p : Int32} (h : SH μ j a E P C O n w t dd) (ht : t < 60) (hC : C ≤ 8) (hO : O ≤ 5) (he : e < E) (hx : x = nI e) : SH (st3 (st3 (st3 (st3 μ 31 j t x) 32 j t p) 33 j t (nI dd)) 9 j 12 (nI (t + 1))) j (ua (ua (ua (ua a (320 + 3 * t) x) (320 + 3 * t + 1) p) (320 + 3 * t + 2) (nI dd)) 11 (nI (t + 1))) E P C O n w (t + 1) dd := by
  obtain ⟨h1, h2, h3, h4, h5, h6⟩ := h
  have hn : n ≤ 24 := h1.1
  have hw : w ≤ 24 := h1.2.1
  have hd : dd ≤ 20000 := h1.2.2.2.1
  have A : ∀ k, (k < 320 + 3 * t ∨ 320 + 3 * t + 3 ≤ k) → k ≠ 11 → ua (ua (ua (ua a (320 + 3 * t) x) (320 + 3 * t + 1) p) (320 + 3 * t + 2) (nI dd)) 11 (nI (t + 1)) k = a k := fun k h1 h2 => by rw [ua_N h2, ua_N (by omega), ua_N (by omega), ua_N (by omega)]
  unfold SH
  simp only [st3_ua, st3_K (show 5 ≠ 9 by omega), st3_K (show 4 ≠ 9 by omega), st3_K (show 27 ≠ 9 by omega), st3_K (show 30 ≠ 9 by omega), st3_K (show 31 ≠ 9 by omega), st3_K (show 32 ≠ 9 by omega), st3_K (show 33 ≠ 9 by omega),
    st3_K (show 9 ≠ 33 by omega), st3_K (show 5 ≠ 33 by omega), st3_K (show 4 ≠ 33 by omega), st3_K (show 27 ≠ 33 by omega), st3_K (show 30 ≠ 33 by omega), st3_K (show 31 ≠ 33 by omega), st3_K (show 32 ≠ 33 by omega),
    st3_K (show 9 ≠ 32 by omega), st3_K (show 5 ≠ 32 by omega), st3_K (show 4 ≠ 32 by omega), st3_K (show 27 ≠ 32 by omega), st3_K (show 30 ≠ 32 by omega), st3_K (show 31 ≠ 32 by omega), st3_K (show 33 ≠ 32 by omega),
    st3_K (show 9 ≠ 31 by omega), st3_K (show 5 ≠ 31 by omega), st3_K (show 4 ≠ 31 by omega), st3_K (show 27 ≠ 31 by omega), st3_K (show 30 ≠ 31 by omega), st3_K (show 32 ≠ 31 by omega), st3_K (show 33 ≠ 31 by omega)]
  refine ⟨?_, fun p hp => (h2 p hp).cong (fun _ _ => rfl) (fun f hf => A _ (by omega) (by omega)), ⟨fun o ho => (h3.1 o ho).cong (fun _ _ => rfl) (fun f hf => A _ (by omega) (by omega)), h3.2⟩, ⟨fun c hc => by rw [A _ (by omega) (by omega)]; exact h4.1 c hc, h4.2⟩, ⟨fun k hk => by rw [A _ (by omega) (by omega)]; exact h5.1 k hk, fun k k' hk hk' => by rw [A _ (by omega) (by omega), A _ (by omega) (by omega)]; exact h5.2 k k' hk hk'⟩, fun i hi => ?_⟩
  · exact Ss_note (by omega) (((h1.ua (by omega)).ua (by omega)).ua (by omega))
  · by_cases e9 : i = t
    · subst e9
      refine ⟨?_, ?_, ?_, ⟨e, he, ?_⟩, dd, hd, ?_⟩
      · rw [ua_S, ua_N (by omega), ua_N (by omega), ua_N (by omega)]; exact ua_S.symm
      · rw [ua_S, ua_N (by omega), ua_N (by omega), ua_S]
      · rw [ua_S, ua_N (by omega), ua_S]
      · rw [ua_N (by omega), ua_N (by omega), ua_N (by omega), ← hx]; exact ua_S
      · rw [ua_N (by omega), ua_S]
    · rw [ua_N e9, ua_N e9, ua_N e9, A _ (by omega) (by omega), A _ (by omega) (by omega), A _ (by omega) (by omega)]
      exact h6 i (by omega)
theorem C_about {q : Nat} {e p : Int32} {m : Mem} : f_Prophecy_isAbout q e p m = some (if m 5 q 2 = e then if m 5 q 1 = 1 then 1 else if m 5 q 3 = p then 1 else 0 else 0) := by
  unfold f_Prophecy_isAbout
  split
  · split
    · rfl
    · split <;> rfl
  · rfl
/-- the happening decides -/
theorem L_hap (hC : C ≤ 8) (hO : O ≤ 5) (hP : P ≤ 6) (H : SH μ j (rO c0 b ν) E P C O n w t dd) (hI : CI (rO c0 b ν) C O n) (hV : OVD (rO c0 b ν) n dd) {e p : Nat} (he : e < 6) (hp : p < 6) : ∃ cnt μ' ν', it (fun s : Int32 × Int32 × Mem => s_Shop_noteHappening_57 j (nI e) (nI p) s.1 s.2.1 s.2.2) LIM (0, 0, μ) = some (cnt, μ') ∧ it (fun s : Int32 × Int32 × Mem => s_Own_happens_43 b (nI e) (nI p) s.1 s.2.1 s.2.2) LIM (0, 0, ν) = some (cnt, ν') ∧ SH μ' j (rO c0 b ν') E P C O n w t dd ∧ FrC j μ μ' ∧ FrO c0 b ν ν' ∧ CI (rO c0 b ν') C O n ∧ OVD (rO c0 b ν') n dd := by
  have hn : n ≤ 24 := H.1.1
  have hdd : dd ≤ 20000 := H.1.2.2.2.1
  refine it_fr2 (f1 := fun s : Int32 × Int32 × Mem => s_Shop_noteHappening_57 j (nI e) (nI p) s.1 s.2.1 s.2.2) (f2 := fun s : Int32 × Int32 × Mem => s_Own_happens_43 b (nI e) (nI p) s.1 s.2.1 s.2.2) (a := (0, 0, μ)) (b := (0, 0, ν))
    (fun i a b' => ∃ c m v, a = (c, nI i, m) ∧ b' = (c, nI i, v) ∧ SH m j (rO c0 b v) E P C O n w t dd ∧ FrC j μ m ∧ FrO c0 b ν v ∧ CI (rO c0 b v) C O n ∧ OVD (rO c0 b v) n dd) (fun a b' => ∃ c m v, a = (c, m) ∧ b' = (c, v) ∧ SH m j (rO c0 b v) E P C O n w t dd ∧ FrC j μ m ∧ FrO c0 b ν v ∧ CI (rO c0 b v) C O n ∧ OVD (rO c0 b v) n dd) n 0 (Nat.zero_le _) (by omega) ⟨0, μ, ν, rfl, rfl, H, FrC.rf, FrO.rf, hI, hV⟩ ?_ ?_ (fun r1 r2 e1 e2 e3 => by obtain ⟨c, m, v, rfl, rfl, e4⟩ := e3; exact ⟨c, m, v, e1, e2, e4⟩)
  · rintro i hi _ _ ⟨c, m, v, rfl, rfl, H, F1, F2, hI, hV⟩
    left
    have h24 : i < 24 := by omega
    have hr := H.2.1 i hi
    obtain ⟨-, -, -, -, s1, a5, s2, s5, a10, -⟩ := H.1
    obtain ⟨k1, ⟨ev, hev, q2, b2⟩, kk, ⟨d4, hd4, q4, b4⟩, k5, k6, q7, k8, k9, k10⟩ := H.2.1 i hi
    have o5 : v 60 b 5 = nI dd := (ro_0 (c0 := c0) (by omega)).symm.trans a5
    have o10 : v 60 b 10 = nI n := (ro_0 (c0 := c0) (by omega)).symm.trans a10
    replace q2 : m 5 (24 * j + i) 2 = v 69 b i := q2.trans (b2.symm.trans (ro_p1 h24))
    replace q4 : m 5 (24 * j + i) 4 = v 71 b i := q4.trans (b4.symm.trans (ro_p4 h24))
    replace q7 : m 5 (24 * j + i) 7 = v 74 b i := Eq.trans q7 (ro_p7 h24)
    have fin : SH m j (rO c0 b v) E P C O n w t dd ∧ FrC j μ m ∧ FrO c0 b ν v ∧ CI (rO c0 b v) C O n ∧ OVD (rO c0 b v) n dd := ⟨H, F1, F2, hI, hV⟩
    show ∃ a' b', s_Shop_noteHappening_57 j (nI e) (nI p) c (nI i) m = some (.inl a') ∧ s_Own_happens_43 b (nI e) (nI p) c (nI i) v = some (.inl b') ∧ _
    have hb : inb (nI i) 24 = true := inb_of h24 (by omega)
    have hc : (nI i).toNatClampNeg = i := nI_clamp (by omega)
    unfold s_Shop_noteHappening_57 s_Own_happens_43
    simp only [hb, chk_t, hc, bindif, nm_9]
    rw [s5, if_neg (nI_ge hi (by omega)), C_about, bind_s, q7, q4, s1, q2, o10, if_neg (nI_ge hi (by omega)), nI_1, C_decide, bind_s, o5]
    by_cases c1 : v 74 b i = 0
    · rw [if_pos c1, if_pos c1]
      by_cases c2 : nI dd < v 71 b i
      · rw [if_pos c2, if_pos c2]
        refine ⟨_, _, rfl, ?_, c, m, v, rfl, rfl, fin⟩
        split <;> rfl
      · rw [if_neg c2, if_neg c2]
        by_cases c3 : v 69 b i = nI e
        · rw [if_pos c3, if_pos c3]
          have c4 : (if m 5 (24 * j + i) 1 = 1 then (1 : Int32) else if m 5 (24 * j + i) 3 = nI p then 1 else 0) = (if v 70 b i < 0 ∨ v 70 b i = nI p then 1 else 0) := by
            rcases kk with ⟨g1, g2, g3, g4⟩ | ⟨g1, ⟨l, hl, g2, g3⟩, g4⟩ | ⟨g1, ⟨l, hl, g2, g3⟩, g4⟩
            · rw [ro_p2 h24] at g3
              rw [show m 5 (24 * j + i) 1 = 1 from g1, g3, if_pos rfl, if_pos (Or.inl (by decide))]
            · rw [ro_p2 h24] at g3
              rw [show m 5 (24 * j + i) 1 = 0 from g1, show m 5 (24 * j + i) 3 = nI l from g2, g3, if_neg (by decide)]
              by_cases z : nI l = nI p
              · rw [if_pos z, if_pos (Or.inr z)]
              · rw [if_neg z, if_neg (by rintro (y | y); exact absurd y (nI_nlt (b := 0) (by omega) (by omega)); exact z y)]
            · rw [ro_p2 h24] at g3
              rw [show m 5 (24 * j + i) 1 = 2 from g1, show m 5 (24 * j + i) 3 = nI l from g2, g3, if_neg (by decide)]
              by_cases z : nI l = nI p
              · rw [if_pos z, if_pos (Or.inr z)]
              · rw [if_neg z, if_neg (by rintro (y | y); exact absurd y (nI_nlt (b := 0) (by omega) (by omega)); exact z y)]
          rw [c4]
          by_cases c5 : v 70 b i < 0 ∨ v 70 b i = nI p
          · rw [if_pos c5, if_neg (by decide)]
            have key : (if (1 : Int32) = (if m 5 (24 * j + i) 1 = 2 then 0 else 1) then (1 : Int32) else 2) = (if v 78 b i = 0 then 1 else 2) := by
              rcases kk with ⟨g1, g2, g3, g4⟩ | ⟨g1, g2, g4⟩ | ⟨g1, g2, g4⟩
              · rw [show m 5 (24 * j + i) 1 = 1 from g1, show v 78 b i = _ from (ro_p3 (c0 := c0) h24).symm.trans g4]; rfl
              · rw [show m 5 (24 * j + i) 1 = 0 from g1, show v 78 b i = _ from (ro_p3 (c0 := c0) h24).symm.trans g4]; rfl
              · rw [show m 5 (24 * j + i) 1 = 2 from g1, show v 78 b i = _ from (ro_p3 (c0 := c0) h24).symm.trans g4]; rfl
            rw [key]
            generalize hv : (if v 78 b i = 0 then (1 : Int32) else 2) = z
            have hz : z = 1 ∨ z = 2 := by subst hv; split; exact Or.inl rfl; exact Or.inr rfl
            have e60 : st3 v 74 b i z 60 b 5 = nI dd := by rw [st3_K (by omega)]; exact o5
            rw [e60]
            have eO : (if v 70 b i < 0 then some (Sum.inl (c + 1, nI (i + 1), st3 (st3 v 74 b i z) 75 b i (nI dd))) else if v 70 b i = nI p then some (Sum.inl (c + 1, nI (i + 1), st3 (st3 v 74 b i z) 75 b i (nI dd))) else some (Sum.inl (c, nI (i + 1), v)) : Option ((Int32 × Int32 × Mem) ⊕ (Int32 × Mem))) = some (Sum.inl (c + 1, nI (i + 1), st3 (st3 v 74 b i z) 75 b i (nI dd))) := by
              by_cases y : v 70 b i < 0
              · rw [if_pos y]
              · rw [if_neg y, if_pos (c5.resolve_left y)]
            rw [eO]
            have er : rO c0 b (st3 (st3 v 74 b i z) 75 b i (nI dd)) = ua (ua (rO c0 b v) (80 + 10 * i + 7) z) (80 + 10 * i + 8) (nI dd) := by rw [sto_p8 h24, sto_p7 h24]
            refine ⟨_, _, rfl, rfl, c + 1, _, _, rfl, rfl, ?_, (F1.st5 (by omega)).st5 (by omega), ?_, ?_, ?_⟩
            · rw [er]
              refine H.setP i hi hC hO (fun K hK => by rw [st3_K hK, st3_K hK]) (fun p hp => by rw [st3_J (by omega), st3_J (by omega)]) (fun k hk => by rw [ua_N (by omega), ua_N (by omega)]) ?_
              rw [st3_two]
              exact hr.dec hz
            · exact (F2.up (sto_p7 h24) (dyn_row (by omega)) (by rw [st3_K (by omega)])).up (sto_p8 h24) (dyn_row (by omega)) (by rw [st3_K (by omega)])
            · rw [er]
              obtain ⟨zn, hzn, rfl⟩ : ∃ zn : Nat, (zn = 1 ∨ zn = 2) ∧ z = nI zn := by
                rcases hz with rfl | rfl
                · exact ⟨1, Or.inl rfl, rfl⟩
                · exact ⟨2, Or.inr rfl, rfl⟩
              exact hI.dec hC hO hn hi (by rw [ro_p7 h24]; exact c1) hzn hdd (fun k _ z7 z8 => by rw [ua_N z8, ua_N z7]) (by rw [ua_N (by omega), ua_S]) ua_S
            · rw [er]
              refine hV.cong hn (fun p hp y => ?_) (fun p hp => by rw [ua_N (by omega), ua_N (by omega)])
              by_cases q : p = i
              · subst q
                rw [ro_p7 h24]
                exact c1
              · rw [ua_N (by omega), ua_N (by omega)] at y
                exact y
          · rw [if_neg c5, if_pos rfl, if_neg (fun y => c5 (Or.inl y)), if_neg (fun y => c5 (Or.inr y))]
            exact ⟨_, _, rfl, rfl, c, m, v, rfl, rfl, fin⟩
        · rw [if_neg c3, if_neg c3, if_pos rfl]
          exact ⟨_, _, rfl, rfl, c, m, v, rfl, rfl, fin⟩
    · rw [if_neg c1, if_neg c1]
      exact ⟨_, _, rfl, rfl, c, m, v, rfl, rfl, fin⟩
  · rintro _ _ ⟨c, m, v, rfl, rfl, H, F1, F2, hI, hV⟩
    obtain ⟨-, -, -, -, s1, a5, s2, s5, a10, -⟩ := H.1
    have o10 : v 60 b 10 = nI n := (ro_0 (c0 := c0) (by omega)).symm.trans a10
    show ∃ r1 r2, s_Shop_noteHappening_57 j (nI e) (nI p) c (nI n) m = some (.inr r1) ∧ s_Own_happens_43 b (nI e) (nI p) c (nI n) v = some (.inr r2) ∧ _
    unfold s_Shop_noteHappening_57 s_Own_happens_43
    rw [s5, if_pos (nI_le (Nat.le_refl _) (by omega)), o10, if_pos (nI_le (Nat.le_refl _) (by omega))]
    exact ⟨_, _, rfl, rfl, c, m, v, rfl, rfl, H, F1, F2, hI, hV⟩
theorem six9 {e p : Nat} (he : e < 6) (hp : p < 6) : 6 * nI e + nI p = nI (6 * e + p) ∧ nI (6 * e + p) / 6 = nI e ∧ nI (6 * e + p) - nI (6 * e + p) / 6 * 6 = nI p := by
  have h1 : 6 * nI e + nI p = nI (6 * e + p) := by rw [show (6 : Int32) = nI 6 from rfl, pk_mul, nI_add]
  have h2 := (note9 he hp he hp).mp h1.symm
  exact ⟨h1, h2.1, h2.2⟩
/-- a happening as a whole -/
theorem T_happen {u : Mem} {b' e p h K : Nat} {ps : Nat → Nat × Mem} (hH : HIS c0 μ s E P C O h K ps) (hQo : QS c0 μ 0 s b v E P C O n w t dd) (hps : ps K = (b, v)) (hQ : QS c0 μ 0 s b' u E P C O n w t dd) (ht : t < 60) (hdd : dd ≤ 9000) (he : e < E) (hp : p < P) (hno : hapd (rO c0 b' u) (nI e) (nI p) (nI dd) t = 0) :
    ∃ cnt m u', f_P_happen (nI e) (nI p) μ = some (cnt, m) ∧ f_Own_happens b' (nI e) (nI p) u = some (cnt, u') ∧ QS c0 m 0 s b' u' E P C O n w (t + 1) dd ∧ HIS c0 m s E P C O (if h < 8 then h + 1 else 8) (K + 1) ps ∧ m 12 = μ 12 := by
  obtain ⟨h0, hT, H, hI, hV, hN⟩ := id hQ
  have hT0 := hT
  obtain ⟨hs, hE, hP, hC, hO, ⟨t3, -⟩, ⟨t4, -⟩, -⟩ := hT
  obtain ⟨hn, hw, -, hd2, s1, a5, s2, s5, a10, s8, a12, s12, a11, -⟩ := H.1
  have hf : f_Shop_faultOfHappening 0 (nI e) (nI p) μ = some 0 := by
    unfold f_Shop_faultOfHappening
    simp only [hS_of h0 hs, decide_eq_true hs, chk_t, C_has t3, C_has t4, bind_s, s12, s1, C_isNoted s12 (by omega) H.2.2.2.2.2]
    rw [ixB_in (by omega) he, if_neg (by decide), ixB_in (by omega) hp, if_neg (by decide), if_neg (gl_60 ht), if_pos hno, if_pos rfl]
  obtain ⟨μ1, e1, e2, e3, e4⟩ := T_rec hH hQo (by omega) hps
  obtain ⟨g0, gT, gS, gI, gV, gN⟩ := e3 _ _ _ _ _ _ hQ
  obtain ⟨-, -, -, -, s1', -, -, -, -, -, -, s12', -⟩ := gS.1
  obtain ⟨x1, x2, x3⟩ := six9 (show e < 6 by omega) (show p < 6 by omega)
  have o11 : u 60 b' 11 = nI t := (ro_0 (c0 := c0) (by omega)).symm.trans a11
  have o5 : u 60 b' 5 = nI dd := (ro_0 (c0 := c0) (by omega)).symm.trans a5
  generalize hu1 : st3 (st3 (st3 u 79 b' t (nI (6 * e + p))) 80 b' t (nI dd)) 60 b' 11 (nI (t + 1)) = u1
  have er : rO c0 b' u1 = ua (ua (ua (ua (rO c0 b' u) (320 + 3 * t) (nI e)) (320 + 3 * t + 1) (nI p)) (320 + 3 * t + 2) (nI dd)) 11 (nI (t + 1)) := by
    rw [← hu1, sto_0 (by omega), sto_d ht, sto_n ht, x3, x2]
    rfl
  have H1 := SH_addN (x := nI e) (p := nI p) gS ht hC hO he rfl
  rw [← er] at H1
  have I1 : CI (rO c0 b' u1) C O n := hI.cong hC hO hn (fun k hk => by rw [er, ua_N (by unfold irr at hk; omega), ua_N (by unfold irr at hk; omega), ua_N (by unfold irr at hk; omega), ua_N (by unfold irr at hk; omega)])
  have V1 : OVD (rO c0 b' u1) n dd := hV.cong hn (fun q hq z => by rw [er, ua_N (by omega), ua_N (by omega), ua_N (by omega), ua_N (by omega)] at z; exact z) (fun q hq => by rw [er, ua_N (by omega), ua_N (by omega), ua_N (by omega), ua_N (by omega)])
  obtain ⟨cnt, m, u', f1, f2, H2, F1, F2, I2, V2⟩ := L_hap hC hO hP H1 I1 V1 (show e < 6 by omega) (show p < 6 by omega)
  have FC : FrC 0 μ1 m := ((((FrC.rf.stA (by omega)).stA (by omega)).stA (by omega)).st9 (by omega)).tr F1
  have N1 : NI u1 b' (t + 1) := by
    intro i hi
    have e79 : u1 79 b' = ua (u 79 b') t (nI (6 * e + p)) := by rw [← hu1, st3_K (by omega), st3_K (by omega), st3_ua]
    rw [e79]
    by_cases q : i = t
    · subst q
      exact ⟨e, p, by omega, by omega, ua_S⟩
    · rw [ua_N q]
      exact hN i (by omega)
  refine ⟨cnt, m, u', ?_, ?_, ⟨FC.2.trans g0, ?_, H2, I2, V2, N1.fr F2⟩, e2.frc FC, (frc_12 FC).trans e4⟩
  · unfold f_P_happen
    rw [hf, bind_s, C_throw0, bind_s, e1, bind_s]
    unfold f_Shop_noteHappening
    rw [s12', if_neg (gl_60 ht), chk_of (inb_of ht (by omega)), nI_clamp (by omega)]
    simp only [nm_9, st3_K (show 9 ≠ 31 by omega), st3_K (show 9 ≠ 32 by omega), st3_K (show 9 ≠ 33 by omega), s12', chk_of (inb_of ht (by omega)), nI_clamp (show t < 2 ^ 31 by omega), s1', nI_1, bind_s, f1]
  · unfold f_Own_happens
    rw [o11, chk_of (inb_of ht (by omega)), nI_clamp (by omega), x1]
    simp only [nm_9, st3_K (show 60 ≠ 79 by omega), st3_K (show 60 ≠ 80 by omega), o11, o5, chk_of (inb_of ht (by omega)), nI_clamp (show t < 2 ^ 31 by omega), nI_1, hu1, f2, bind_s]
  · have T1 : ST μ1 s (rO c0 b' u1) E P C O := gT.cong (fun k hk => by rw [er, ua_N (by unfold dynI at hk; omega), ua_N (by unfold dynI at hk; omega), ua_N (by unfold dynI at hk; omega), ua_N (by unfold dynI at hk; omega)])
    exact T1.fro FC F2
/-- a request as a whole -/
theorem T_ask {u : Mem} {b' p h K : Nat} {ps : Nat → Nat × Mem} (hH : HIS c0 μ s E P C O h K ps) (hQo : QS c0 μ 0 s b v E P C O n w t dd) (hps : ps K = (b, v)) (hQ : QS c0 μ 0 s b' u E P C O n w t dd) (hdd : dd ≤ 9000) (hp : p < n) (hno : inq (rO c0 b' u) (nI p) w = -1) :
    ∃ m, f_P_ask (nI p) μ = some (nI (w + 1), m) ∧ w < n ∧ QS c0 m 0 s b' (st3 (st3 u 77 b' w (nI p)) 60 b' 12 (nI (w + 1))) E P C O n (w + 1) t dd ∧ HIS c0 m s E P C O (if h < 8 then h + 1 else 8) (K + 1) ps ∧ m 12 = μ 12 := by
  obtain ⟨h0, hT, H, hI, hV, hN⟩ := id hQ
  have hC : C ≤ 8 := hT.2.2.2.1
  have hO : O ≤ 5 := hT.2.2.2.2.1
  obtain ⟨hn, hw, ht, -, s1, a5, s2, s5, a10, s8, a12, -⟩ := H.1
  have hQ9 := H.2.2.2.2.1
  have hf : f_Shop_faultOfRequest 0 (nI p) μ = some 0 := by
    unfold f_Shop_faultOfRequest
    rw [C_hasSold s5 hn, ixB_in (by omega) hp, bind_s, if_neg (by decide), C_requestsBefore s8 hw hQ9, bind_s, hno, if_pos rfl]
  have hnq := inq_m1 hw hno
  have hwn : w < n := hQ9.room hn hp hnq
  obtain ⟨μ1, e1, e2, e3, e4⟩ := T_rec hH hQo (by omega) hps
  obtain ⟨g0, gT, gS, gI, gV, gN⟩ := e3 _ _ _ _ _ _ hQ
  obtain ⟨-, -, -, -, -, -, -, -, -, s8', -⟩ := gS.1
  have er : rO c0 b' (st3 (st3 u 77 b' w (nI p)) 60 b' 12 (nI (w + 1))) = ua (ua (rO c0 b' u) (500 + w) (nI p)) 12 (nI (w + 1)) := by rw [sto_0 (by omega), sto_q]
  have FC : FrC 0 μ1 (st3 (st3 μ1 30 0 w (nI p)) 9 0 8 (nI (w + 1))) := (FrC.rf.stA (by omega)).st9 (by omega)
  refine ⟨st3 (st3 μ1 30 0 w (nI p)) 9 0 8 (nI (w + 1)), ?_, hwn, ⟨FC.2.trans g0, ?_, ?_, ?_, ?_, ?_⟩, e2.frc FC, (frc_12 FC).trans e4⟩
  · unfold f_P_ask
    rw [hf, bind_s, C_throw0, bind_s, e1, bind_s]
    unfold f_Shop_addRequest
    rw [s8', if_neg (gl_24 (by omega)), chk_of (inb_of (by omega) (by omega)), nI_clamp (by omega), nm_9, st3_K (show 9 ≠ 30 by omega), s8', nI_1, nm_9, st3_ua, ua_S, bind_s]
  · rw [er]
    refine ((gT.mem (fun K q => by funext i; exact FC.1 K i (by unfold inS; unfold setK at q; omega))).cong (fun k hk => ?_))
    rw [ua_N (by unfold dynI at hk; omega), ua_N (by unfold dynI at hk; omega)]
  · rw [er]
    exact SH_addQ gS (by omega) hC hO hp hnq
  · rw [er]
    exact (hI.skip hC hO hn (by unfold irr; omega)).skip hC hO hn (by unfold irr; omega)
  · rw [er]
    exact hV.cong hn (fun q hq z => by rw [ua_N (by omega), ua_N (by omega)] at z; exact z) (fun q hq => by rw [ua_N (by omega), ua_N (by omega)])
  · intro i hi
    rw [st3_K (by omega), st3_K (by omega)]
    exact hN i hi
/-- days that pass, as a whole -/
theorem T_advance {u : Mem} {b' k h K : Nat} {ps : Nat → Nat × Mem} (hH : HIS c0 μ s E P C O h K ps) (hQo : QS c0 μ 0 s b v E P C O n w t dd) (hps : ps K = (b, v)) (hQ : QS c0 μ 0 s b' u E P C O n w t dd) (hk1 : 1 ≤ k) (hk2 : k ≤ 60) (hdd : dd + k ≤ 9000) :
    ∃ m u' w', f_P_advance (nI k) μ = some (u' 60 b' 13 - u 60 b' 13, m) ∧ psN b' k u = some u' ∧ QS c0 m 0 s b' u' E P C O n w' t (dd + k) ∧ HIS c0 m s E P C O (if h < 8 then h + 1 else 8) (K + 1) ps ∧ m 12 = μ 12 := by
  obtain ⟨h0, hT, H, hI, hV, hN⟩ := id hQ
  obtain ⟨hn, hw, ht, -, s1, a5, s2, s5, a10, s8, a12, s12, a11, s13, -⟩ := H.1
  have hf : f_Shop_faultOfDays 0 (nI k) μ = some 0 := by
    have w1 : wi (nI k) 1 60 = 1 := by unfold wi; rw [if_neg (nl_1 hk1 (by omega)), if_neg (ng_60 hk2)]
    unfold f_Shop_faultOfDays
    rw [C_within, bind_s, w1, if_neg (by decide), s1, nI_add, if_pos (le_9999 (by omega))]
  obtain ⟨μ1, e1, e2, e3, e4⟩ := T_rec hH hQo (by omega) hps
  obtain ⟨g0, gT, gS, gI, gV, gN⟩ := e3 _ _ _ _ _ _ hQ
  obtain ⟨m, u', w', f1, f2, f3, F1, F2, f4, f5⟩ := L_days (by omega) g0 gT gS gI gV k (by omega)
  refine ⟨m, u', w', ?_, f2, ⟨F1.2.trans g0, gT.fro F1 F2, f3, f4, f5, gN.fr F2⟩, e2.frc F1, (frc_12 F1).trans e4⟩
  unfold f_P_advance
  rw [hf, bind_s, C_throw0, bind_s, e1, bind_s, f1, bind_s]
  obtain ⟨-, -, -, -, -, -, -, -, -, -, -, -, -, z1, -⟩ := f3.1
  obtain ⟨-, -, -, -, -, -, -, -, -, -, -, -, -, z2, -⟩ := gS.1
  rw [z1, z2, ro_0 (by omega), ro_0 (by omega)]
end Ops

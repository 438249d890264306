/-! The forecasts. -/
theorem it_un {S R : Type} {f : S → Option (S ⊕ R)} (I : Nat → S → Prop) (Q : R → Prop) (N : Nat) (hs : ∀ i, i < N → ∀ s, I i s → (∃ s', f s = some (.inl s') ∧ I (i + 1) s') ∨ ∃ r, f s = some (.inr r) ∧ Q r) (hx : ∀ s, I N s → ∃ r, f s = some (.inr r) ∧ Q r) : ∀ (n k : Nat) (s : S), k + n = N → I k s → ∃ r, it f (n + 1) s = some r ∧ Q r
  | 0, k, s, hk, h => by
    obtain rfl : k = N := by omega
    obtain ⟨r, h1, h2⟩ := hx s h
    exact ⟨r, it_r h1, h2⟩
  | n + 1, k, s, hk, h => by
    rcases hs k (by omega) s h with ⟨s', h1, h2⟩ | ⟨r, h1, h2⟩
    · obtain ⟨r, h3, h4⟩ := it_un I Q N hs hx n (k + 1) s' (by omega) h2
      exact ⟨r, it_l h1 h3, h4⟩
    · exact ⟨r, it_r h1, h2⟩
/-- the state of the prophecy p after i days -/
def st9 (b p : Nat) (v : Mem) (i : Nat) : Int32 := match psN b i v with
  | some u => u 74 b p
  | none => 0
/-- the first of i days on which it is paid back -/
def utl (b p : Nat) (v : Mem) : Nat → Int32
  | 0 => -1
  | i + 1 => if utl b p v i < 0 ∧ st9 b p v i = 3 then nI i else utl b p v i
theorem utl_no {b p : Nat} {v : Mem} : ∀ {i : Nat}, (∀ z, z < i → st9 b p v z ≠ 3) → utl b p v i = -1
  | 0, _ => rfl
  | i + 1, h => by
    show (if _ ∧ _ then _ else _) = _
    rw [if_neg (fun z => h i (by omega) z.2)]
    exact utl_no (fun z hz => h z (by omega))
theorem utl_yes {b p k : Nat} {v : Mem} (hk : k < 1000) (h : ∀ z, z < k → st9 b p v z ≠ 3) (h3 : st9 b p v k = 3) : ∀ j, utl b p v (k + 1 + j) = nI k
  | 0 => by
    show (if utl b p v k < 0 ∧ st9 b p v k = 3 then nI k else utl b p v k) = _
    rw [if_pos ⟨by rw [utl_no h]; decide, h3⟩]
  | j + 1 => by
    have ih := utl_yes hk h h3 j
    show (if utl b p v (k + 1 + j) < 0 ∧ st9 b p v (k + 1 + j) = 3 then nI (k + 1 + j) else utl b p v (k + 1 + j)) = nI k
    rw [if_neg (fun z => by rw [ih] at z; exact nI_pos (by omega) z.1)]
    exact ih
section Fore
variable {c0 : Int32} {μ v : Mem} {s b E P C O n w t dd : Nat}
theorem F_try (hQ : QS c0 μ 0 s b v E P C O n w t dd) : ∃ m1, f_Shop_copyFrom 1 0 μ = some m1 ∧ (∀ K i, ¬ inS 1 K i → m1 K i = μ K i) ∧ m1 9 1 0 = nI s ∧ ST m1 s (rO c0 b v) E P C O ∧ SH m1 1 (rO c0 b v) E P C O n w t dd := by
  obtain ⟨h0, hT, H, -⟩ := hQ
  obtain ⟨m1, e1, hc⟩ := C_copy (μ := μ) (j1 := 1) (j2 := 0) (s := s) (by omega) h0 hT.1 H.out
  exact ⟨m1, e1, hc.1, (hc.2.1 0 (Or.inl rfl)).trans h0, hT.mem (fun K q => by funext i; exact hc.1 K i (by unfold inS; unfold setK at q; omega)), H.cpy hc hT.2.2.2.1 hT.2.2.2.2.1⟩
/-- what a forecast leaves -/
def FrF (μ m : Mem) : Prop := ∀ K i, ¬ inS 1 K i → m K i = μ K i
theorem FrF.qs {μ m : Mem} {b' : Nat} {u : Mem} (h : FrF μ m) (hQ : QS c0 μ 0 s b' u E P C O n w t dd) : QS c0 m 0 s b' u E P C O n w t dd :=
  hQ.mem (fun K i q => h K i (by unfold inS at q ⊢; omega)) (fun K q => by funext i; exact h K i (by unfold inS; unfold setK at q; omega))
theorem FrF.his {μ m : Mem} {h K : Nat} {pl : Nat → Nat × Mem} (hf : FrF μ m) (hH : HIS c0 μ s E P C O h K pl) : HIS c0 m s E P C O h K pl :=
  hH.fr (fun K q => by funext i; exact hf K i (by unfold inS; unfold setK at q; omega)) (fun j K i j1 j2 q => hf K i (by unfold inS at q ⊢; omega)) (by rw [hf 2 0 (by unfold inS; omega)]) (hf 34 0 (by unfold inS; omega))
theorem FrF.m12 {μ m : Mem} (h : FrF μ m) : m 12 = μ 12 := by
  funext i
  exact h 12 i (by unfold inS; omega)
theorem F_psN (hQ : QS c0 μ 0 s b v E P C O n w t dd) {k : Nat} (hd : dd + k ≤ 20000) : ∃ u, psN b k v = some u ∧ u 60 b 10 = nI n := by
  obtain ⟨h0, hT, H, hI, hV, hN⟩ := hQ
  obtain ⟨m, u, w', f1, f2, f3, -⟩ := L_days (by omega) h0 hT H hI hV k hd
  obtain ⟨-, -, -, -, -, -, -, -, a10, -⟩ := f3.1
  exact ⟨u, f2, (ro_0 (c0 := c0) (by omega)).symm.trans a10⟩
theorem P_cashAfter (hQ : QS c0 μ 0 s b v E P C O n w t dd) {k : Nat} (hk : k ≤ 300) (hd : dd ≤ 9000) : ∃ m u, f_P_cashAfter (nI k) μ = some (u 60 b 0, m) ∧ psN b k v = some u ∧ FrF μ m := by
  obtain ⟨m1, e1, hc, c0', cT, cS⟩ := F_try hQ
  obtain ⟨-, -, -, hI, hV, -⟩ := hQ
  obtain ⟨m, u, w', f1, f2, f3, F1, -⟩ := L_days (j := 1) (by omega) c0' cT cS hI hV k (by omega)
  refine ⟨m, u, ?_, f2, fun K i q => (F1.1 K i q).trans (hc K i q)⟩
  have w1 : wi (nI k) 0 300 = 1 := by unfold wi; rw [if_neg (nI_pos (by omega)), if_neg (ng_300 hk)]
  unfold f_P_cashAfter
  rw [C_within, bind_s, w1, if_neg (by decide), e1, bind_s, f1, bind_s]
  obtain ⟨-, -, -, -, -, -, s2, -⟩ := f3.1
  show some (m 9 1 2, m) = _
  rw [s2, ro_0 (by omega)]
theorem C_oneDay {m m' : Mem} (h : s_Shop_passDays_7 1 1 (m 9 1 13) 0 m = some (.inl ((0 : Int32) + 1, m'))) : f_Shop_passDays 1 1 m = some (m' 9 1 13 - m 9 1 13, m') := by
  unfold f_Shop_passDays
  rw [nm_9]
  have : it (fun q : Int32 × Mem => s_Shop_passDays_7 1 1 (m 9 1 13) q.1 q.2) LIM (0, m) = some m' := by
    refine it_mono (show 2 ≤ 3000000 by omega) (it_l (n := 1) (s' := ((0 : Int32) + 1, m')) h (it_r (n := 0) ?_))
    show s_Shop_passDays_7 1 1 (m 9 1 13) ((0 : Int32) + 1) m' = _
    unfold s_Shop_passDays_7
    rw [if_pos (by decide)]
  rw [this]
  rfl
theorem P_untilRefunded (hQ : QS c0 μ 0 s b v E P C O n w t dd) {p : Nat} (hp : p < n) (hd : dd ≤ 9000) : ∃ m, f_P_daysUntilRefunded (nI p) μ = some (utl b p v 301, m) ∧ FrF μ m := by
  obtain ⟨hn, -, -, -, -, -, -, s5, -⟩ := hQ.2.2.1.1
  have h24 : p < 24 := by omega
  obtain ⟨m1, e1, hc, c0', cT, cS⟩ := F_try hQ
  obtain ⟨-, -, -, hI, hV, -⟩ := hQ
  have eC : f_P_daysUntilRefunded (nI p) μ = (it (fun (s : Int32 × Mem) => s_P_daysUntilRefunded_33 (24 * 1 + p) s.1 s.2) LIM ((0, m1))).bind (fun q6 => els q6 (fun r7 => some (((-1), r7))) (fun v => some v)) := by
    unfold f_P_daysUntilRefunded f_P_throwIfMissing
    rw [C_hasSold s5 hn, ixB_in (by omega) hp, bind_s, if_neg (by decide), bind_s, e1, bind_s, C_prophecyWith (j := 1) (by exact (cS.1).2.2.2.2.2.2.2.1) hn hp, bind_s, chk_of (decide_eq_true (by omega))]
  have key : ∃ r, it (fun s : Int32 × Mem => s_P_daysUntilRefunded_33 (24 * 1 + p) s.1 s.2) (301 + 1) (0, m1) = some r ∧ ((∃ m, r = .inl m ∧ utl b p v 301 = -1 ∧ FrC 1 m1 m) ∨ ∃ m, r = .inr (utl b p v 301, m) ∧ FrC 1 m1 m) := by
    refine it_un (f := fun s : Int32 × Mem => s_P_daysUntilRefunded_33 (24 * 1 + p) s.1 s.2)
      (fun i a => ∃ m u w', a = (nI i, m) ∧ psN b i v = some u ∧ SH m 1 (rO c0 b u) E P C O n w' t (dd + i) ∧ FrC 1 m1 m ∧ FrO c0 b v u ∧ CI (rO c0 b u) C O n ∧ OVD (rO c0 b u) n (dd + i) ∧ ∀ z, z < i → st9 b p v z ≠ 3)
      (fun r => (∃ m, r = .inl m ∧ utl b p v 301 = -1 ∧ FrC 1 m1 m) ∨ ∃ m, r = .inr (utl b p v 301, m) ∧ FrC 1 m1 m) 301 (fun i hi a ha => ?_) (fun a ha => ?_) 301 0 (0, m1) (by omega) ⟨m1, v, w, rfl, rfl, cS, FrC.rf, FrO.rf, hI, hV, fun z hz => absurd hz (Nat.not_lt_zero _)⟩
    · obtain ⟨m, u, w', rfl, eu, hS, F1, F2, hI, hV, hz⟩ := ha
      have hr := (hS.2.1 p hp).2.2.2.2.2.2.1
      replace hr : m 5 (24 * 1 + p) 7 = u 74 b p := Eq.trans hr (ro_p7 h24)
      have e9 : st9 b p v i = u 74 b p := by unfold st9; rw [eu]
      show (∃ s', s_P_daysUntilRefunded_33 (24 * 1 + p) (nI i) m = some (.inl s') ∧ _) ∨ ∃ r, s_P_daysUntilRefunded_33 (24 * 1 + p) (nI i) m = some (.inr r) ∧ _
      unfold s_P_daysUntilRefunded_33
      rw [if_neg (ng_300 (by omega)), hr]
      by_cases c3 : u 74 b p = 3
      · right
        rw [if_pos c3]
        have := utl_yes (by omega) hz (e9.trans c3) (300 - i)
        rw [show i + 1 + (300 - i) = 301 by omega] at this
        exact ⟨_, rfl, Or.inr ⟨m, by rw [this], F1⟩⟩
      · left
        rw [if_neg c3]
        obtain ⟨m', u', w'', d1, d2, d3, d4, d5, d6, d7⟩ := L_day (j := 1) (by omega) (F1.2.trans c0') (cT.fro F1 F2) hS hI (by omega) (x1 := 1) (x2 := m 9 1 13) (x3 := 0) (by decide)
        rw [C_oneDay d1, bind_s, nI_1]
        refine ⟨_, rfl, m', u', w'', rfl, ?_, d3, F1.tr d4, F2.tr d5, d6, d7, fun z hz9 => ?_⟩
        · show (psN b i v).bind _ = _
          rw [eu]
          exact d2
        · by_cases q : z = i
          · subst q
            rw [e9]
            exact c3
          · exact hz z (by omega)
    · obtain ⟨m, u, w', rfl, eu, hS, F1, F2, hI, hV, hz⟩ := ha
      show ∃ r, s_P_daysUntilRefunded_33 (24 * 1 + p) (nI 301) m = some (.inr r) ∧ _
      unfold s_P_daysUntilRefunded_33
      rw [if_pos (gg_300 (by omega) (by omega))]
      exact ⟨_, rfl, Or.inl ⟨m, rfl, utl_no hz, F1⟩⟩
  obtain ⟨r, h1, h2⟩ := key
  have h3 := it_mono (show 301 + 1 ≤ LIM by unfold LIM; omega) h1
  rw [eC, h3, bind_s]
  rcases h2 with ⟨m, rfl, h4, h5⟩ | ⟨m, rfl, h5⟩
  · rw [els_l, h4]
    exact ⟨m, rfl, fun K i q => (h5.1 K i q).trans (hc K i q)⟩
  · rw [els_r]
    exact ⟨m, rfl, fun K i q => (h5.1 K i q).trans (hc K i q)⟩
end Fore

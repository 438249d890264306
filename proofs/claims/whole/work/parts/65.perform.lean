/-! One command is executed, on both sides. -/
def EXR (s E P C O : Nat) (μ0 ν0 μ ν : Mem) (a : Nat) : Prop := (∃ n w t dd, dd ≤ 9999 ∧ SH μ 0 (ν 40 0) E P C O n w t dd) ∧ (∀ K i, ¬ inS 0 K i → K ≠ 10 → μ K i = μ0 K i) ∧ μ 9 0 0 = nI s ∧ (∀ j f, f ≠ 10 → μ 10 j f = μ0 10 j f) ∧ (∀ K, K ≠ 13 → K ≠ 40 → ν K = ν0 K) ∧ (∀ k, ¬ dynI k → ν 40 0 k = ν0 40 0 k) ∧ (∀ f, f ≠ 7 → f ≠ 21 → (f < 23 ∨ 25 < f) → ν 13 0 f = ν0 13 0 f) ∧ ν 13 0 21 = nI a ∧ a ≤ 40
def EXF (s E P C O : Nat) (μ0 ν0 : Mem) : Prop := ST μ0 s (ν0 40 0) E P C O ∧ ν0 13 0 22 = 1
section Perform
variable {s E P C O a k p : Nat} {μ0 ν0 μ ν m v : Mem}
theorem EXR.st (h : EXR s E P C O μ0 ν0 μ ν a) (hF : EXF s E P C O μ0 ν0) : ST μ s (ν 40 0) E P C O :=
  (hF.1.mem (fun K q => by funext i; exact h.2.1 K i (by unfold setK at q; unfold inS; omega) (by unfold setK at q; omega))).cong h.2.2.2.2.2.1
/-- the model's numbers that are of no weight -/
theorem EXR.mdl {f : Nat} {x : Int32} (h : EXR s E P C O μ0 ν0 μ ν a) (hf : f = 7 ∨ (23 ≤ f ∧ f ≤ 25)) : EXR s E P C O μ0 ν0 μ (st3 ν 13 0 f x) a := by
  obtain ⟨h1, h2, h3, h4, h5, h6, h7, h8, h9⟩ := h
  refine ⟨by rw [st3_K (show 40 ≠ 13 by omega)]; exact h1, h2, h3, h4, fun K k1 k2 => (st3_K k1).trans (h5 K k1 k2), fun i hi => by rw [st3_K (by omega)]; exact h6 i hi, fun g g1 g2 g3 => ?_, ?_, h9⟩
  · rw [st3_ua, ua_N (by omega)]; exact h7 g g1 g2 g3
  · rw [st3_ua, ua_N (by omega)]; exact h8
theorem SIM.now (h : EXR s E P C O μ0 ν0 μ ν a) (hS : SIM μ0 ν0 p k) : SIM μ ν p k := hS.cong (fun f hf => h.2.2.2.1 p f hf) (by rw [h.2.2.2.2.1 47 (by omega) (by omega)]) (fun q _ => by rw [h.2.2.2.2.1 48 (by omega) (by omega)])
theorem laid_ {q : Nat} (hk : k < 30) (hq : q < 7) : f_R_laid (nI k) (nI q) ν = some (ν 48 0 (7 * k + q)) := by
  unfold f_R_laid
  have e : (7 : Int32) * nI k + nI q = nI (7 * k + q) := by
    rw [show (7 : Int32) = nI 7 from rfl, show nI 7 * nI k = nI (7 * k) from (Int32.ofNat_mul 7 k).symm, nI_add]
  rw [e, chk_of (inb_of (by omega) (by omega)), nI_clamp (by omega)]
theorem laid0 (hk : k < 30) : f_R_laid (nI k) 0 ν = some (ν 48 0 (7 * k + 0)) := laid_ (q := 0) hk (by omega)
theorem laid1 (hk : k < 30) : f_R_laid (nI k) 1 ν = some (ν 48 0 (7 * k + 1)) := laid_ (q := 1) hk (by omega)
theorem laid2 (hk : k < 30) : f_R_laid (nI k) 2 ν = some (ν 48 0 (7 * k + 2)) := laid_ (q := 2) hk (by omega)
theorem laid3 (hk : k < 30) : f_R_laid (nI k) 3 ν = some (ν 48 0 (7 * k + 3)) := laid_ (q := 3) hk (by omega)
theorem laid4 (hk : k < 30) : f_R_laid (nI k) 4 ν = some (ν 48 0 (7 * k + 4)) := laid_ (q := 4) hk (by omega)
theorem laid5 (hk : k < 30) : f_R_laid (nI k) 5 ν = some (ν 48 0 (7 * k + 5)) := laid_ (q := 5) hk (by omega)
theorem laid6 (hk : k < 30) : f_R_laid (nI k) 6 ν = some (ν 48 0 (7 * k + 6)) := laid_ (q := 6) hk (by omega)
/-- what an operation does inside of a script -/
theorem X_op {n w t dd kk : Nat} {km : Int32} {cf : Option Int32} {md : Option (Int32 × Mem)} {eff : Mem → Option (Int32 × Mem)} (h : EXR s E P C O μ0 ν0 μ ν a) (hF : EXF s E P C O μ0 ν0) (h7 : ν 13 0 7 = 0) (hdd : dd ≤ 9999) (H : SH μ 0 (ν 40 0) E P C O n w t dd) (hO : OP 0 s E P C O n w t dd ν kk km cf md eff) :
    (∃ c v, cf = some c ∧ c ≠ 0 ∧ md = some (0, v) ∧ v 13 0 7 ≠ 0 ∧ EXR s E P C O μ0 ν0 μ v a) ∨ (∃ x m v, cf = some 0 ∧ eff μ = some (x, m) ∧ md = some (x, v) ∧ v 13 0 7 = 0 ∧ EXR s E P C O μ0 ν0 m v a ∧ ∀ j, m 10 j = μ 10 j) := by
  obtain ⟨o1, o2, o3, o4⟩ := hO
  by_cases e : kk = 0
  · right
    have h22 : ν 13 0 22 = 1 := (h.2.2.2.2.2.2.1 22 (by omega) (by omega) (by omega)).trans hF.2
    obtain ⟨x, v, b1, b2, b3⟩ := o4 e ν (by unfold f_R_changes; rw [if_neg (by rw [h22]; decide)]) rfl (fun _ _ => rfl)
    obtain ⟨m, n', w', t', dd', c1, c2, c3, c4⟩ := b3 μ h.2.2.1 (h.st hF) H
    refine ⟨x, m, v, by rw [o1, e]; rfl, c1, b1, ?_, ⟨⟨n', w', t', dd', c2, c3⟩, fun K i q k1 => (c4.1 K i q).trans (h.2.1 K i q k1), c4.2.trans h.2.2.1, fun j f hf => by rw [c4.1 10 j (by unfold inS; omega)]; exact h.2.2.2.1 j f hf, fun K k1 k2 => (b2.1 K k2).trans (h.2.2.2.2.1 K k1 k2), fun i hi => (b2.2 i hi).trans (h.2.2.2.2.2.1 i hi), fun f f1 f2 f3 => by rw [b2.1 13 (by omega)]; exact h.2.2.2.2.2.2.1 f f1 f2 f3, by rw [b2.1 13 (by omega)]; exact h.2.2.2.2.2.2.2.1, h.2.2.2.2.2.2.2.2⟩, fun j => c4.1 10 j (by unfold inS; omega)⟩
    rw [b2.1 13 (by omega)]
    exact h7
  · left
    obtain ⟨q1, q2⟩ := o3 e
    refine ⟨nI kk, _, o1, ?_, q2, ?_, h.mdl (Or.inl rfl)⟩
    · intro z
      have := (nI_eq (a := kk) (b := 0) (by omega) (by omega)).mp z
      omega
    · rw [st3_ua, ua_S]
      exact q1
/-- one command -/
theorem X_one (h : EXR s E P C O μ0 ν0 μ ν a) (hF : EXF s E P C O μ0 ν0) (hS0 : SIM μ0 ν0 p k) (hk : k < 30) :
    (∃ y v, f_Script_perform p 0 μ = some (0, μ) ∧ f_R_does (nI k) ν = some (y, v) ∧ v 13 0 7 ≠ 0 ∧ EXR s E P C O μ0 ν0 μ v a) ∨ (∃ y m v, f_Script_perform p 0 μ = some (1, m) ∧ f_R_does (nI k) ν = some (y, v) ∧ v 13 0 7 = 0 ∧ EXR s E P C O μ0 ν0 m v a ∧ ∀ j, m 10 j = μ 10 j) := by
  have hS := hS0.now h
  have h1 := h.mdl (f := 7) (x := 0) (Or.inl rfl)
  have z7 : (st3 ν 13 0 7 0) 13 0 7 = 0 := by rw [st3_ua, ua_S]
  have e47 : (st3 ν 13 0 7 0) 47 0 k = ν 47 0 k := by rw [st3_K (by omega)]
  have e48 : ∀ z, (st3 ν 13 0 7 0) 48 0 z = ν 48 0 z := fun z => by rw [st3_K (by omega)]
  unfold f_Script_perform f_Script_faultOf f_R_does
  rw [nm_9, chk_of (inb_of hk (by omega)), nI_clamp (by omega)]
  rcases hS with ⟨a0, b0, w1, w2, w3, w4, w5, w6, w7, w8⟩ | ⟨a0, b0, w1, w2⟩ | ⟨a0, b0, w1⟩ | ⟨a0, b0, w1⟩
  · rw [if_pos a0, if_pos (show (st3 ν 13 0 7 0) 47 0 k = 0 by rw [e47]; exact b0), laid4 hk, bind_s, laid5 hk, bind_s, laid6 hk, bind_s]
    unfold f_R_lengths
    rw [nm_9, nm_9, nm_9, bind_s, laid0 hk, bind_s, laid1 hk, bind_s, laid2 hk, bind_s, laid3 hk, bind_s]
    have h2 := ((h1.mdl (f := 23) (x := ν 48 0 (7 * k + 4)) (Or.inr (by omega))).mdl (f := 24) (x := ν 48 0 (7 * k + 5)) (Or.inr (by omega))).mdl (f := 25) (x := ν 48 0 (7 * k + 6)) (Or.inr (by omega))
    have hz : ∀ z, (st3 (st3 (st3 (st3 ν 13 0 7 0) 13 0 23 (ν 48 0 (7 * k + 4))) 13 0 24 (ν 48 0 (7 * k + 5))) 13 0 25 (ν 48 0 (7 * k + 6))) 48 0 z = ν 48 0 z := fun z => by rw [st3_K (by omega), st3_K (by omega), st3_K (by omega), st3_K (by omega)]
    rw [e48, e48, e48, hz, hz, hz, hz]
    obtain ⟨⟨n, w, t, dd, hdd, H⟩, -⟩ := id h2
    have h7 : (st3 (st3 (st3 (st3 ν 13 0 7 0) 13 0 23 (ν 48 0 (7 * k + 4))) 13 0 24 (ν 48 0 (7 * k + 5))) 13 0 25 (ν 48 0 (7 * k + 6))) 13 0 7 = 0 := by rw [st3_ua, ua_N (by omega), st3_ua, ua_N (by omega), st3_ua, ua_N (by omega), st3_ua, ua_S]
    obtain ⟨kk, hO⟩ := L_sale (j := 0) (xc := μ 10 p 1) (kd := μ 10 p 2) (xe := μ 10 p 3) (xp := μ 10 p 4) (xd := μ 10 p 5) (xl := μ 10 p 6) (xr := μ 10 p 7) h2.2.2.1 (h2.st hF) H hdd h7 (by rcases w8 with q | q | q; exact Or.inl q; exact Or.inr (Or.inl q); exact Or.inr (Or.inr q)) (by rw [st3_ua, ua_N (by omega), st3_ua, ua_N (by omega), st3_ua, ua_S]; exact w5.symm) (by rw [st3_ua, ua_N (by omega), st3_ua, ua_S]; exact w6.symm) (by rw [st3_ua, ua_S]; exact w7.symm)
    rw [← w1, ← w2, ← w3, ← w4]
    rcases X_op h2 hF h7 hdd H hO with ⟨c, v, q1, q2, q3, q4, q5⟩ | ⟨x, m, v, q1, q2, q3, q4, q5, q6⟩
    · exact Or.inl ⟨0, v, by rw [q1, bind_s, bind_s, if_neg q2], by rw [q3, bind_s], q4, q5⟩
    · exact Or.inr ⟨x, m, v, by rw [q1, bind_s, bind_s, if_pos rfl, if_pos a0, show f_Shop_addProphecy 0 _ _ _ _ _ _ _ μ = _ from q2, bind_s], by rw [q3, bind_s], q4, q5, q6⟩
  · rw [if_neg (show ¬ μ 10 p 0 = 0 by rw [a0]; decide), if_pos a0, if_neg (show ¬ (st3 ν 13 0 7 0) 47 0 k = 0 by rw [e47, b0]; decide), if_pos (show (st3 ν 13 0 7 0) 47 0 k = 1 by rw [e47]; exact b0), laid1 hk, bind_s, laid2 hk, bind_s, e48, e48, ← w1, ← w2]
    obtain ⟨⟨n, w, t, dd, hdd, H⟩, -⟩ := id h1
    obtain ⟨kk, km, hO, -⟩ := L_happen (j := 0) h1.2.2.1 (h1.st hF) H hdd z7 (μ 10 p 3) (μ 10 p 4)
    rcases X_op h1 hF z7 hdd H hO with ⟨c, v, q1, q2, q3, q4, q5⟩ | ⟨x, m, v, q1, q2, q3, q4, q5, q6⟩
    · exact Or.inl ⟨0, v, by rw [q1, bind_s, bind_s, if_neg q2], by rw [q3, bind_s], q4, q5⟩
    · exact Or.inr ⟨x, m, v, by rw [q1, bind_s, bind_s, if_pos rfl, if_neg (show ¬ μ 10 p 0 = 0 by rw [a0]; decide), if_pos a0, show f_Shop_noteHappening 0 _ _ μ = _ from q2, bind_s], by rw [q3, bind_s], q4, q5, q6⟩
  · rw [if_neg (show ¬ μ 10 p 0 = 0 by rw [a0]; decide), if_neg (show ¬ μ 10 p 0 = 1 by rw [a0]; decide), if_pos a0, if_neg (show ¬ (st3 ν 13 0 7 0) 47 0 k = 0 by rw [e47, b0]; decide), if_neg (show ¬ (st3 ν 13 0 7 0) 47 0 k = 1 by rw [e47, b0]; decide), if_pos (show (st3 ν 13 0 7 0) 47 0 k = 2 by rw [e47]; exact b0), laid0 hk, bind_s, e48, ← w1]
    obtain ⟨⟨n, w, t, dd, hdd, H⟩, -⟩ := id h1
    obtain ⟨kk, km, hO, -⟩ := L_ask (j := 0) h1.2.2.1 (h1.st hF) H hdd z7 (μ 10 p 8)
    rcases X_op h1 hF z7 hdd H hO with ⟨c, v, q1, q2, q3, q4, q5⟩ | ⟨x, m, v, q1, q2, q3, q4, q5, q6⟩
    · exact Or.inl ⟨0, v, by rw [q1, bind_s, bind_s, if_neg q2], by rw [q3, bind_s], q4, q5⟩
    · exact Or.inr ⟨x, m, v, by rw [q1, bind_s, bind_s, if_pos rfl, if_neg (show ¬ μ 10 p 0 = 0 by rw [a0]; decide), if_neg (show ¬ μ 10 p 0 = 1 by rw [a0]; decide), if_pos a0, show f_Shop_addRequest 0 _ μ = _ from q2, bind_s], by rw [q3, bind_s], q4, q5, q6⟩
  · rw [if_neg (show ¬ μ 10 p 0 = 0 by rw [a0]; decide), if_neg (show ¬ μ 10 p 0 = 1 by rw [a0]; decide), if_neg (show ¬ μ 10 p 0 = 2 by rw [a0]; decide), if_neg (show ¬ (st3 ν 13 0 7 0) 47 0 k = 0 by rw [e47, b0]; decide), if_neg (show ¬ (st3 ν 13 0 7 0) 47 0 k = 1 by rw [e47, b0]; decide), if_neg (show ¬ (st3 ν 13 0 7 0) 47 0 k = 2 by rw [e47, b0]; decide), laid0 hk, bind_s, e48, ← w1]
    obtain ⟨⟨n, w, t, dd, hdd, H⟩, -⟩ := id h1
    obtain ⟨kk, km, hO, -⟩ := L_adv (j := 0) (by omega) h1.2.2.1 (h1.st hF) H hdd z7 (μ 10 p 8)
    rcases X_op h1 hF z7 hdd H hO with ⟨c, v, q1, q2, q3, q4, q5⟩ | ⟨x, m, v, q1, q2, q3, q4, q5, q6⟩
    · exact Or.inl ⟨0, v, by rw [q1, bind_s, bind_s, if_neg q2], by rw [q3, bind_s], q4, q5⟩
    · exact Or.inr ⟨x, m, v, by rw [q1, bind_s, bind_s, if_pos rfl, if_neg (show ¬ μ 10 p 0 = 0 by rw [a0]; decide), if_neg (show ¬ μ 10 p 0 = 1 by rw [a0]; decide), if_neg (show ¬ μ 10 p 0 = 2 by rw [a0]; decide), show f_Shop_passDays 0 _ μ = _ from q2, bind_s], by rw [q3, bind_s], q4, q5, q6⟩
end Perform

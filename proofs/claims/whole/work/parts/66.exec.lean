/-! A script is executed: the class's moves, the model's recursion. -/
abbrev XS : Type := Int32 × Int32 × Int32 × Mem
def exS : XS → Option (XS ⊕ ((Int32 × Mem) ⊕ (Int32 × Mem))) := fun q => s_Script_execute_7 0 q.1 q.2.1 q.2.2.1 q.2.2.2
def exT (a p z : Nat) (μ : Mem) : XS := (nI a, nI p, nI z, μ)
def STP (q : XS) (a : Nat) (m : Mem) : Prop := exS q = some (.inr (.inl (nI a, m))) ∨ exS q = some (.inr (.inr (nI a, m)))
section Exec
variable {s E P C O : Nat} {μ0 ν0 : Mem} {Q : Nat}
/-- what the loop of a level answers -/
def lvR (FF : Int32 → Int32 → Mem → Option (Int32 × Mem)) (e n k : Nat) (ν : Mem) (r : Mem ⊕ (Int32 × Mem)) : Prop := it (fun (z : Int32 × Mem) => s_R_doesAll_2 FF (nI e) z.1 z.2) n (nI k, ν) = some r
theorem lvR.mono {FF : Int32 → Int32 → Mem → Option (Int32 × Mem)} {e n n' k : Nat} {ν : Mem} {r : Mem ⊕ (Int32 × Mem)} (h : lvR FF e n k ν r) (hn : n ≤ n') : lvR FF e n' k ν r := it_mono hn h
theorem lvR.all {FF : Int32 → Int32 → Mem → Option (Int32 × Mem)} {e n k : Nat} {ν : Mem} {r : Mem ⊕ (Int32 × Mem)} (h : lvR FF e n k ν r) (hn : n ≤ 100) : f_R_doesAll FF (nI k) (nI e) ν = els r (fun r2 => some (1, r2)) (fun v => some v) := by
  unfold f_R_doesAll
  rw [show it (fun (z : Int32 × Mem) => s_R_doesAll_2 FF (nI e) z.1 z.2) LIM (nI k, ν) = some r from it_mono (show n ≤ 3000000 by omega) h, bind_s]
theorem R_rep {FF : Int32 → Int32 → Mem → Option (Int32 × Mem)} {e n k e' : Nat} {ν v : Mem} {r : Mem ⊕ (Int32 × Mem)} (hke : k < e) (hk : k < 30) (he : e ≤ 30) (h47 : ν 47 0 k = 4) (h48 : v 48 0 (7 * k + 1) = nI e') (hl : it (fun (z : Int32 × Mem) => s_R_doesAll_20 FF (nI e) (nI k) z.1 z.2) LIM (0, ν) = some (.inl v)) (h : lvR FF e n e' v r) : lvR FF e (n + 1) k ν r := by
  refine it_l ?_ h
  show s_R_doesAll_2 FF (nI e) (nI k) ν = _
  unfold s_R_doesAll_2
  rw [if_neg (nI_ge hke (by omega)), chk_of (inb_of hk (by omega)), nI_clamp (by omega), if_pos h47, hl, bind_s, els_l, laid1 hk, bind_s, h48]
theorem R_repX {FF : Int32 → Int32 → Mem → Option (Int32 × Mem)} {e n k : Nat} {ν : Mem} {v : Int32 × Mem} (hke : k < e) (hk : k < 30) (he : e ≤ 30) (h47 : ν 47 0 k = 4) (hl : it (fun (z : Int32 × Mem) => s_R_doesAll_20 FF (nI e) (nI k) z.1 z.2) LIM (0, ν) = some (.inr v)) : lvR FF e (n + 1) k ν (.inr v) := by
  refine it_r ?_
  show s_R_doesAll_2 FF (nI e) (nI k) ν = _
  unfold s_R_doesAll_2
  rw [if_neg (nI_ge hke (by omega)), chk_of (inb_of hk (by omega)), nI_clamp (by omega), if_pos h47, hl, bind_s, els_r]
theorem rounds40 {FF : Int32 → Int32 → Mem → Option (Int32 × Mem)} {e k e' r : Nat} {ν : Mem} (hk : k < 30) (h0 : ν 48 0 (7 * k + 0) = nI r) (hr : r ≤ 20) (h1 : ν 48 0 (7 * k + 1) = nI e') (hF : ∃ b, FF (nI (k + 1)) (nI e') ν = some (b, ν)) : ∀ (d i : Nat), i + d = r → ∃ x, it (fun (z : Int32 × Mem) => s_R_doesAll_20 FF (nI e) (nI k) z.1 z.2) (d + 1) (nI i, ν) = some x ∧ (x = .inl ν ∨ x = .inr (0, ν)) := by
  obtain ⟨b, hb⟩ := hF
  intro d
  induction d with
  | zero =>
    intro i hi
    refine ⟨.inl ν, it_r ?_, Or.inl rfl⟩
    show s_R_doesAll_20 FF (nI e) (nI k) (nI i) ν = _
    unfold s_R_doesAll_20
    rw [laid0 hk, bind_s, h0, if_pos (nI_le (by omega) (by omega))]
  | succ d ih =>
    intro i hi
    have st : s_R_doesAll_20 FF (nI e) (nI k) (nI i) ν = if b = 0 then some (.inr (.inr (0, ν))) else some (.inl (nI (i + 1), ν)) := by
      unfold s_R_doesAll_20
      rw [laid0 hk, bind_s, h0, if_neg (nI_ge (by omega) (by omega)), laid1 hk, bind_s, h1, nI_1, hb, bind_s, nI_1]
    by_cases c : b = 0
    · rw [if_pos c] at st
      exact ⟨.inr (0, ν), it_r st, Or.inr rfl⟩
    · rw [if_neg c] at st
      obtain ⟨x, h2, h3⟩ := ih (i + 1) (by omega)
      exact ⟨x, it_l st h2, h3⟩
theorem SIM.kd {i k : Nat} {μ ν : Mem} (h : SIM μ ν i k) : ¬ ν 47 0 k = 4 ∧ ¬ μ 10 i 0 = 4 ∧ ¬ μ 10 i 0 = 5 := by
  rcases h with ⟨a, b, -⟩ | ⟨a, b, -⟩ | ⟨a, b, -⟩ | ⟨a, b, -⟩ <;> (rw [a, b]; decide)
theorem lv_end {FF : Int32 → Int32 → Mem → Option (Int32 × Mem)} {n k : Nat} {ν : Mem} (hk : k ≤ 30) : lvR FF k (n + 1) k ν (.inl ν) := by
  refine it_r ?_
  show s_R_doesAll_2 FF (nI k) (nI k) ν = _
  unfold s_R_doesAll_2
  rw [if_pos (nI_le (Nat.le_refl _) (by omega))]
/-- all is done: nothing more happens -/
theorem level40a {ν : Mem} {h : Nat} (h40 : ν 13 0 21 = 40) (ihh : ∀ h', h = h' + 1 → ∀ (n k e p q : Nat), BLK μ0 ν n h' k e p q → e ≤ 30 → ∃ r, lvR (f_R_das (h' + 1)) e (e - k + 1) k ν r ∧ (r = .inl ν ∨ r = .inr (0, ν))) : ∀ (n k e p q : Nat), BLK μ0 ν n h k e p q → e ≤ 30 → ∃ r, lvR (f_R_das (h + 1)) e (e - k + 1) k ν r ∧ (r = .inl ν ∨ r = .inr (0, ν)) := by
  intro n
  induction n with
  | zero =>
    intro k e p q hB he
    obtain ⟨rfl, rfl⟩ := hB
    exact ⟨.inl ν, lv_end he, Or.inl rfl⟩
  | succ n ih =>
    intro k e p q hB he
    rcases hB with ⟨rfl, rfl⟩ | ⟨S, hB⟩ | ⟨h', e', q', rfl, R, hB1, hB2⟩
    · exact ⟨.inl ν, lv_end he, Or.inl rfl⟩
    · have hle := hB.le
      refine ⟨.inr (0, ν), it_r ?_, Or.inr rfl⟩
      show s_R_doesAll_2 _ (nI e) (nI k) ν = _
      unfold s_R_doesAll_2
      rw [if_neg (nI_ge (by omega) (by omega)), chk_of (inb_of (by omega) (by omega)), nI_clamp (by omega), if_neg S.kd.1, if_pos h40]
    · have l1 := hB1.le
      have l2 := hB2.le
      obtain ⟨R1, R2, ⟨r, r1, r2, r3⟩, R4, R5, R6, R7⟩ := R
      obtain ⟨rb, b1, b2⟩ := ihh h' rfl n (k + 1) e' (p + 1) q' hB1 (by omega)
      have hF : ∃ b, f_R_das (h' + 1 + 1) (nI (k + 1)) (nI e') ν = some (b, ν) := by
        have := b1.all (by omega)
        rcases b2 with rfl | rfl
        · exact ⟨1, this⟩
        · exact ⟨0, this⟩
      obtain ⟨x, x1, x2⟩ := rounds40 (e := e) (by omega) r3 r1 R5 hF r 0 (by omega)
      have x1' : it (fun (z : Int32 × Mem) => s_R_doesAll_20 (f_R_das (h' + 1 + 1)) (nI e) (nI k) z.1 z.2) LIM (0, ν) = some x := it_mono (show r + 1 ≤ 3000000 by omega) x1
      rcases x2 with rfl | rfl
      · obtain ⟨r9, c1, c2⟩ := ih e' e (q' + 1) q hB2 he
        exact ⟨r9, (R_rep (by omega) (by omega) he R2 R5 x1' c1).mono (by omega), c2⟩
      · exact ⟨_, (R_repX (n := 0) (by omega) (by omega) he R2 x1').mono (by omega), Or.inr rfl⟩
theorem level40 {ν : Mem} (h40 : ν 13 0 21 = 40) : ∀ (h n k e p q : Nat), BLK μ0 ν n h k e p q → e ≤ 30 → ∃ r, lvR (f_R_das (h + 1)) e (e - k + 1) k ν r ∧ (r = .inl ν ∨ r = .inr (0, ν))
  | 0 => level40a h40 (fun h' e => by omega)
  | h + 1 => level40a h40 (fun h' e => by
    obtain rfl : h = h' := by omega
    exact level40 h40 h)
-- the class's moves
theorem EXR.r10 {a j : Nat} {x : Int32} {μ ν : Mem} (h : EXR s E P C O μ0 ν0 μ ν a) : EXR s E P C O μ0 ν0 (st3 μ 10 j 10 x) ν a := by
  obtain ⟨⟨n, w, t, dd, hd, H⟩, h2, h3, h4, h5⟩ := h
  refine ⟨⟨n, w, t, dd, hd, ?_⟩, fun K i q k => by rw [st3_K k]; exact h2 K i q k, by rw [st3_K (by omega)]; exact h3, fun i f hf => ?_, h5⟩
  · unfold SH
    simp only [st3_K (show 9 ≠ 10 by omega), st3_K (show 5 ≠ 10 by omega), st3_K (show 4 ≠ 10 by omega), st3_K (show 27 ≠ 10 by omega), st3_K (show 30 ≠ 10 by omega), st3_K (show 31 ≠ 10 by omega), st3_K (show 32 ≠ 10 by omega), st3_K (show 33 ≠ 10 by omega)]
    exact H
  · by_cases e : i = j
    · subst e; rw [st3_ua, ua_N hf]; exact h4 i f hf
    · rw [st3_J e]; exact h4 i f hf
theorem EXR.q {a : Nat} {μ ν : Mem} (h : EXR s E P C O μ0 ν0 μ ν a) (hQ : μ0 6 0 7 = nI Q) : μ 6 0 7 = nI Q := by rw [h.2.1 6 0 (by unfold inS; omega) (by omega)]; exact hQ
theorem stepAt_ {p : Nat} {μ : Mem} (hp : p < 60) : f_Script_stepAt (nI p) μ = some p := by
  unfold f_Script_stepAt
  rw [if_neg (nI_pos (by omega)), if_neg (show ¬ (60 : Int32) ≤ nI p from nI_ge (b := 60) hp (by omega)), chk_of (inb_of hp (by omega)), nI_clamp (by omega)]
theorem stp40 {p z : Nat} {μ : Mem} : STP (exT 40 p z μ) 40 μ := by
  left
  show s_Script_execute_7 0 (nI 40) (nI p) (nI z) μ = _
  unfold s_Script_execute_7
  split
  · rfl
  · split
    · rfl
    · rw [if_pos (show (40 : Int32) ≤ nI 40 by decide)]
theorem ex_in {a p z : Nat} {μ : Mem} (ha : a < 40) (hp : p < Q) (hQ6 : Q ≤ 60) (hz : z < 1000000) (hq : μ 6 0 7 = nI Q) : exS (exT a p z μ) = (if (μ 10 p 0) = 4 then (nm (st3 μ 10 p 10 (μ 10 p 8)) (fun μ9 => if (μ9 10 p 8) ≤ 0 then (nm ((μ9 10 p 9) + 1 : Int32) (fun v10 => some (.inl ((nI a, v10, nI z + 1, μ9))))) else (nm (nI p + 1 : Int32) (fun v11 => some (.inl ((nI a, v11, nI z + 1, μ9))))))) else (if (μ 10 p 0) = 5 then (((f_Script_stepAt (μ 10 p 9) μ)).bind (fun r4 => chk (decide (r4 < 60)) (nm (st3 μ 10 r4 10 ((μ 10 r4 10) - 1)) (fun μ6 => if (μ6 10 r4 10) ≤ 0 then (nm (nI p + 1 : Int32) (fun v7 => some (.inl ((nI a, v7, nI z + 1, μ6))))) else (nm ((μ6 10 p 9) + 1 : Int32) (fun v8 => some (.inl ((nI a, v8, nI z + 1, μ6))))))))) else (((f_Script_perform p 0 μ)).bind (fun r3 => if r3.1 = 0 then (some (.inr (.inr ((nI a, r3.2))))) else (some (.inl ((nI a + 1, nI p + 1, nI z + 1, r3.2)))))))) := by
  show s_Script_execute_7 0 (nI a) (nI p) (nI z) μ = _
  unfold s_Script_execute_7
  rw [if_neg (show ¬ (1000000 : Int32) ≤ nI z from nI_ge (b := 1000000) hz (by omega)), if_neg (show ¬ μ 6 0 7 ≤ nI p by rw [hq]; exact nI_ge hp (by omega)), if_neg (show ¬ (40 : Int32) ≤ nI a from nI_ge (b := 40) ha (by omega)), stepAt_ (by omega), bind_s, chk_of (decide_eq_true (by omega))]
theorem ex_rep {a p z r q' : Nat} {μ : Mem} (ha : a < 40) (hp : p < Q) (hQ6 : Q ≤ 60) (hz : z < 1000000) (hq : μ 6 0 7 = nI Q) (h0 : μ 10 p 0 = 4) (h8 : μ 10 p 8 = nI r) (hr : r ≤ 20) (h9 : μ 10 p 9 = nI q') : exS (exT a p z μ) = some (.inl (exT a (if r = 0 then q' + 1 else p + 1) (z + 1) (st3 μ 10 p 10 (nI r)))) := by
  rw [ex_in ha hp hQ6 hz hq, if_pos h0, nm_9, h8, st3_ua, ua_N (show 8 ≠ 10 by omega), h8, ua_N (show 9 ≠ 10 by omega), h9]
  by_cases c : r = 0
  · subst c
    rw [if_pos (show nI 0 ≤ 0 by decide), if_pos rfl, nm_9]
    unfold exT
    rw [nI_1, nI_1]
  · rw [if_neg (show ¬ nI r ≤ 0 from nI_ge (a := 0) (by omega) (by omega)), if_neg c, nm_9]
    unfold exT
    rw [nI_1, nI_1]
theorem ex_close {a p z d q' : Nat} {μ : Mem} (ha : a < 40) (hp : p < 60) (hq' : q' < Q) (hQ6 : Q ≤ 60) (hz : z < 1000000) (hq : μ 6 0 7 = nI Q) (h0 : μ 10 q' 0 = 5) (h9 : μ 10 q' 9 = nI p) (h10 : μ 10 p 10 = nI (d + 1)) (hd : d ≤ 20) : exS (exT a q' z μ) = some (.inl (exT a (if d = 0 then q' + 1 else p + 1) (z + 1) (st3 μ 10 p 10 (nI d)))) := by
  have e9 : (st3 μ 10 p 10 (nI d)) 10 q' 9 = nI p := by
    by_cases c : q' = p
    · subst c; rw [st3_ua, ua_N (by omega)]; exact h9
    · rw [st3_J c]; exact h9
  rw [ex_in ha hq' hQ6 hz hq, if_neg (show ¬ μ 10 q' 0 = 4 by rw [h0]; decide), if_pos h0, h9, stepAt_ hp, bind_s, chk_of (decide_eq_true hp), nm_9, h10, show nI (d + 1) - 1 = nI d from nI_sub (a := d + 1) (b := 1) (by omega), e9, st3_ua, ua_S]
  by_cases c : d = 0
  · subst c
    rw [if_pos (show nI 0 ≤ 0 by decide), if_pos rfl, nm_9]
    unfold exT
    rw [nI_1, nI_1]
  · rw [if_neg (show ¬ nI d ≤ 0 from nI_ge (a := 0) (by omega) (by omega)), if_neg c, nm_9]
    unfold exT
    rw [nI_1, nI_1]
end Exec

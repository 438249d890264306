/-! The readers: names. -/
section RNames
variable {K : Nat} {μ ν : Mem} {B : Nat → Nat} {L : Nat}
theorem P_word (hK : K = 6 ∨ K = 8) (h : RS0 K μ ν B L) : ∃ x y m v, f_Reader_codeOfName K μ = some (x, m) ∧ f_R_looksAtName ν = some (y, v) ∧ PO K μ ν m v B L ∧ (m K 0 4 = 0 → NM x y) := by
  have he := h.er
  have h0 := h
  obtain ⟨b, e, hX, ⟨h1, h2⟩, ⟨h3, h4⟩, ⟨hbe, heL, hT⟩, h5, h6⟩ := h
  have hL := hX.1
  by_cases z : μ K 0 4 = 0
  · have z' : ν 13 0 16 = 0 := by rw [← he]; exact z
    by_cases k1 : μ K 0 1 = 1
    · obtain ⟨t1, hlt, hl⟩ : ν 13 0 14 = 1 ∧ b < e ∧ (∀ i, b ≤ i → i < e → isL (B i)) := by
        rcases hT with ⟨k, t, -⟩ | ⟨k, t, q⟩ | ⟨k, t, q⟩ | ⟨-, k, t, q⟩ | ⟨-, k, t⟩
        · rw [k] at k1; exact absurd k1 (by decide)
        · exact ⟨t, q⟩
        · rw [k] at k1; exact absurd k1 (by decide)
        · rw [k] at k1
          have := (nI_eq (a := B b) (b := 1) (by omega) (by omega)).mp k1
          omega
        · rw [k] at k1; exact absurd k1 (by decide)
      by_cases c6 : e - b ≤ 6
      · have hl' : ∀ i, i < e - b → isL (B (b + i)) := fun i hi => hl (b + i) (by omega) (by omega)
        have q1 := C_codeOf hX (f := b) (k := e - b) (by omega) (by omega) c6 hl'
        have q2 := R_packed hX (f := b) (k := e - b) (by omega) c6 hl'
        rw [show b + (e - b) = e by omega] at q1
        refine ⟨_, _, μ, ν, ?_, ?_, PO.rf h0, fun _ => ⟨_, wl_ok hl' (by omega) c6, rfl, rfl⟩⟩
        · unfold f_Reader_codeOfName
          rw [if_pos z, if_pos k1, h3, h1, nI_sub hbe, if_pos (le_6 c6), q1, bind_s]
        · unfold f_R_looksAtName
          rw [if_pos t1, bind_s, must_ok z', bind_s, if_neg n1_, snd_, h4, h2, nI_sub hbe, if_neg (ng_6 c6), bind_s, must_ok z', bind_s, bind_s, snd_, if_pos z', h4, h2, nI_sub hbe, q2, bind_s]
      · obtain ⟨m, v, f1, f2, f3, f4⟩ := P_fail (c := 2) hK (by decide) h0
        refine ⟨0, 0, m, v, ?_, ?_, f3, fun q => absurd q f4⟩
        · unfold f_Reader_codeOfName
          rw [if_pos z, if_pos k1, h3, h1, nI_sub hbe, if_neg (nle_6 (by omega) (by omega)), f1, bind_s]
        · unfold f_R_looksAtName
          rw [if_pos t1, bind_s, must_ok z', bind_s, if_neg n1_, snd_, h4, h2, nI_sub hbe, if_pos (gg_6 (by omega) (by omega)), bind_s, f2, bind_s, bind_s, snd_, if_neg (by rw [← f3.1.er]; exact f4)]
    · have t1 : ν 13 0 14 ≠ 1 := by
        rcases hT with ⟨k, t, -⟩ | ⟨k, t, q, -⟩ | ⟨k, t, -⟩ | ⟨-, k, t, q⟩ | ⟨-, k, t⟩
        · rw [t]; decide
        · exact absurd k k1
        · rw [t]; decide
        · rw [t]; decide
        · rw [t]; decide
      obtain ⟨m, v, f1, f2, f3, f4⟩ := P_fail (c := 1) hK (by decide) h0
      refine ⟨0, 0, m, v, ?_, ?_, f3, fun q => absurd q f4⟩
      · unfold f_Reader_codeOfName
        rw [if_pos z, if_neg k1, f1, bind_s]
      · unfold f_R_looksAtName
        rw [if_neg t1, bind_s, f2, bind_s, if_pos rfl, bind_s, snd_, if_neg (by rw [← f3.1.er]; exact f4)]
  · have z' : ν 13 0 16 ≠ 0 := by rw [← he]; exact z
    refine ⟨0, 0, μ, ν, ?_, ?_, PO.rf h0, fun q => absurd q z⟩
    · unfold f_Reader_codeOfName
      rw [if_neg z, fail_er z, bind_s]
    · unfold f_R_looksAtName
      have : ∀ q : Int32, (f_R_must q 1 ν).bind (fun r2 => ((if r2.1 = 0 then (some (r2.2)) else (((if (6 : Int32) < ((r2.2 13 0 12) - (r2.2 13 0 13)) then (some (0)) else (some (1)) : Option (Int32))).bind (fun q5 => ((f_R_must q5 2 r2.2)).bind (fun r6 => some (r6.2)))) : Option (Mem))).bind (fun q3 => if (q3 13 0 16) = 0 then (((f_R_packed (q3 13 0 13) ((q3 13 0 12) - (q3 13 0 13)) q3)).bind (fun r4 => some ((r4, q3)))) else (some ((0, q3))))) = some (0, ν) := fun q => by
        rw [must_er z', bind_s, if_pos rfl, bind_s, snd_, if_neg z']
      split
      · rw [bind_s]; exact this 1
      · rw [bind_s]; exact this 0
/-- past a name, right or not -/
theorem P_pass1 (hK : K = 6 ∨ K = 8) (h : RS0 K μ ν B L) : ∃ m v, (if μ K 0 4 = 0 then f_Reader_next K μ else some μ) = some m ∧ f_R_passesName 1 ν = some v ∧ PO K μ ν m v B L := by
  have he := h.er
  unfold f_R_passesName
  by_cases z : μ K 0 4 = 0
  · have z' : ν 13 0 16 = 0 := by rw [← he]; exact z
    obtain ⟨m, v, g1, g2, g3, -⟩ := P_go hK h
    rw [if_pos z, g1, if_pos z', if_neg (by decide), bind_s, must_ok z', bind_s, snd_, goes_ok z', g2, bind_s]
    exact ⟨m, v, rfl, rfl, g3⟩
  · have z' : ν 13 0 16 ≠ 0 := by rw [← he]; exact z
    rw [if_neg z, if_neg z', bind_s, must_er z', bind_s, snd_, goes_er z', bind_s]
    exact ⟨μ, ν, rfl, rfl, PO.rf h⟩
theorem P_pass0 (hK : K = 6 ∨ K = 8) (h : RS0 K μ ν B L) : ∃ m v, f_Reader_fail K 3 μ = some m ∧ m K 0 4 ≠ 0 ∧ f_R_passesName 0 ν = some v ∧ PO K μ ν m v B L := by
  have he := h.er
  unfold f_R_passesName
  obtain ⟨m, v, f1, f2, f3, f4⟩ := P_fail (c := 3) hK (by decide) h
  by_cases z : μ K 0 4 = 0
  · have z' : ν 13 0 16 = 0 := by rw [← he]; exact z
    rw [if_pos z', if_pos rfl, bind_s, f2, bind_s, snd_, goes_er (by rw [← f3.1.er]; exact f4), bind_s, f1]
    exact ⟨m, v, rfl, f4, rfl, f3⟩
  · have z' : ν 13 0 16 ≠ 0 := by rw [← he]; exact z
    rw [if_neg z', bind_s, must_er z', bind_s, snd_, goes_er z', bind_s, fail_er z]
    exact ⟨μ, ν, rfl, z, rfl, PO.rf h⟩
/-- names of one kind, read so far -/
def NMS (j b0 st : Nat) (μ ν : Mem) (c m0 : Nat) : Prop := c = m0 ∧ ∀ k, k < m0 → NM (μ 23 j k) (ν 40 0 (b0 + st * k))
theorem er_3 {x : Int32} {j : Nat} {m : Mem} {cnt : Nat} (hc : m 3 j 1 = nI cnt) (hc8 : cnt ≤ 8) : ∃ q, f_Names_find j x m = some q := ⟨_, C_find hc hc8⟩
theorem P_new {j b0 st cnt m0 : Nat} {g : Int32 → Mem → Option Int32} (hK : K = 6 ∨ K = 8) (h : RS0 K μ ν B L) (hc : μ 3 j 1 = nI cnt) (hc8 : cnt ≤ 8) (hg : ∀ y v, (∀ K', K' ≠ 13 → v K' = ν K') → g y v = some (fdI (fun k => decide (ν 40 0 (b0 + st * k) = y)) 0 m0)) (hN : μ K 0 4 = 0 → NMS j b0 st μ ν cnt m0) :
    ∃ x y m v1 v q, f_Reader_takeNewName K j μ = some (x, m) ∧ f_R_looksAtName ν = some (y, v1) ∧ g y v1 = some q ∧ (if q = -1 then some 1 else some 0 : Option Int32).bind (fun z => f_R_passesName z v1) = some v ∧ PO K μ ν m v B L ∧ (m K 0 4 = 0 → NM x y) := by
  obtain ⟨x, y, m1, v1, e1, e2, e3, e4⟩ := P_word hK h
  have hc1 : m1 3 j 1 = nI cnt := by rw [e3.2.1.1 3 (by omega)]; exact hc
  have hgv := hg y v1 e3.2.1.2.2.1
  generalize hq : fdI (fun k => decide (ν 40 0 (b0 + st * k) = y)) 0 m0 = q at hgv
  have eC : f_Reader_takeNewName K j μ = (if fdI (fun k => decide (m1 23 j k = x)) 0 cnt = -1 then some m1 else (f_Reader_fail K 3 m1).bind (fun r5 => some r5)).bind (fun q3 => if (q3 K 0 4) = 0 then (((f_Reader_next K q3)).bind (fun r4 => some ((x, r4)))) else (some ((x, q3)))) := by
    unfold f_Reader_takeNewName
    rw [e1, bind_s, C_find hc1 hc8, bind_s]
  by_cases z : m1 K 0 4 = 0
  · obtain ⟨rfl, hN2⟩ := hN (e3.2.2 z)
    have hNx := e4 z
    have hsame : fdI (fun k => decide (m1 23 j k = x)) 0 cnt = q := by
      rw [e3.2.1.1 23 (by omega), ← hq]
      exact same_find (a := fun k => ν 40 0 (b0 + st * k)) hN2 hNx
    rw [hsame] at eC
    by_cases c : q = -1
    · rw [if_pos c, bind_s, if_pos z] at eC
      obtain ⟨m, v, p1, p2, p3⟩ := P_pass1 hK e3.1
      rw [if_pos z] at p1
      refine ⟨x, y, m, v1, v, q, by rw [eC, p1, bind_s], e2, hgv, by rw [if_pos c, bind_s, p2], e3.tr p3, fun _ => hNx⟩
    · obtain ⟨m, v, p1, p2, p3, p4⟩ := P_pass0 hK e3.1
      rw [if_neg c, p1, bind_s, bind_s, if_neg p2] at eC
      exact ⟨x, y, m, v1, v, q, eC, e2, hgv, by rw [if_neg c, bind_s, p3], e3.tr p4, fun w => absurd w p2⟩
  · have z' : v1 13 0 16 ≠ 0 := by rw [← e3.1.er]; exact z
    have eC' : f_Reader_takeNewName K j μ = some (x, m1) := by
      rw [eC]
      split
      · rw [bind_s, if_neg z]
      · rw [fail_er z, bind_s, bind_s, if_neg z]
    have p : ∀ t : Int32, f_R_passesName t v1 = some v1 := fun t => by
      unfold f_R_passesName
      rw [if_neg z', bind_s, must_er z', bind_s, snd_, goes_er z', bind_s]
    refine ⟨x, y, m1, v1, v1, q, eC', e2, hgv, ?_, e3, fun w => absurd w z⟩
    split
    · rw [bind_s, p]
    · rw [bind_s, p]
theorem P_take {j b0 st cnt m0 : Nat} {g : Int32 → Mem → Option Int32} (hK : K = 6 ∨ K = 8) (h : RS0 K μ ν B L) (hc : μ 3 j 1 = nI cnt) (hc8 : cnt ≤ 8) (hg : ∀ y v, (∀ K', K' ≠ 13 → v K' = ν K') → g y v = some (fdI (fun k => decide (ν 40 0 (b0 + st * k) = y)) 0 m0)) (hN : μ K 0 4 = 0 → NMS j b0 st μ ν cnt m0) :
    ∃ x y m v1 v q, f_Reader_takeName K j μ = some (x, m) ∧ f_R_looksAtName ν = some (y, v1) ∧ g y v1 = some q ∧ (if q = -1 then some 0 else some 1 : Option Int32).bind (fun z => f_R_passesName z v1) = some v ∧ PO K μ ν m v B L ∧ (m K 0 4 = 0 → x = q ∧ ∃ d, d < m0 ∧ q = nI d) := by
  obtain ⟨x, y, m1, v1, e1, e2, e3, e4⟩ := P_word hK h
  have hc1 : m1 3 j 1 = nI cnt := by rw [e3.2.1.1 3 (by omega)]; exact hc
  have hgv := hg y v1 e3.2.1.2.2.1
  generalize hq : fdI (fun k => decide (ν 40 0 (b0 + st * k) = y)) 0 m0 = q at hgv
  generalize hr : fdI (fun k => decide (m1 23 j k = x)) 0 cnt = r
  have eC : f_Reader_takeName K j μ = (if r = -1 then (f_Reader_fail K 3 m1).bind (fun r5 => some r5) else some m1).bind (fun q3 => if (q3 K 0 4) = 0 then (((f_Reader_next K q3)).bind (fun r4 => some ((r, r4)))) else (some ((r, q3)))) := by
    unfold f_Reader_takeName
    rw [e1, bind_s, C_find hc1 hc8, bind_s, hr]
  by_cases z : m1 K 0 4 = 0
  · obtain ⟨rfl, hN2⟩ := hN (e3.2.2 z)
    have hNx := e4 z
    have hsame : r = q := by
      rw [← hr, e3.2.1.1 23 (by omega), ← hq]
      exact same_find (a := fun k => ν 40 0 (b0 + st * k)) hN2 hNx
    subst hsame
    by_cases c : r = -1
    · obtain ⟨m, v, p1, p2, p3, p4⟩ := P_pass0 hK e3.1
      rw [if_pos c, p1, bind_s, bind_s, if_neg p2] at eC
      exact ⟨r, y, m, v1, v, r, eC, e2, hgv, by rw [if_pos c, bind_s, p3], e3.tr p4, fun w => absurd w p2⟩
    · rw [if_neg c, bind_s, if_pos z] at eC
      obtain ⟨m, v, p1, p2, p3⟩ := P_pass1 hK e3.1
      rw [if_pos z] at p1
      refine ⟨r, y, m, v1, v, r, by rw [eC, p1, bind_s], e2, hgv, by rw [if_neg c, bind_s, p2], e3.tr p3, fun _ => ⟨rfl, ?_⟩⟩
      rcases fdI_sp (P := fun k => decide (ν 40 0 (b0 + st * k) = y)) (n := cnt) (i := 0) with ⟨w, -⟩ | ⟨k, -, hk, -, w, -⟩
      · exact absurd (hq.symm.trans w) c
      · exact ⟨k, by omega, hq.symm.trans w⟩
  · have z' : v1 13 0 16 ≠ 0 := by rw [← e3.1.er]; exact z
    have eC' : f_Reader_takeName K j μ = some (r, m1) := by
      rw [eC]
      split
      · rw [fail_er z, bind_s, bind_s, if_neg z]
      · rw [bind_s, if_neg z]
    have p : ∀ t : Int32, f_R_passesName t v1 = some v1 := fun t => by
      unfold f_R_passesName
      rw [if_neg z', bind_s, must_er z', bind_s, snd_, goes_er z', bind_s]
    refine ⟨r, y, m1, v1, v1, q, eC', e2, hgv, ?_, e3, fun w => absurd w z⟩
    split
    · rw [bind_s, p]
    · rw [bind_s, p]
end RNames

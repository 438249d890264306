/-! The setup is read: the head, events, places. -/
theorem RS0.cong {K : Nat} {μ ν m v : Mem} {B : Nat → Nat} {L : Nat} (h : RS0 K μ ν B L) (h1 : m K = μ K) (h2 : m 11 = μ 11) (h3 : m 20 = μ 20) (h4 : v 13 = ν 13) (h5 : v 46 = ν 46) : RS0 K m v B L := by
  obtain ⟨b, e, hX, q⟩ := h
  refine ⟨b, e, ?_, ?_⟩
  · unfold TX; rw [h2, h3, h4, h5]; exact hX
  · rw [h1, h4]; exact q
/-- what a reading of the setup s may change -/
def FLd (s : Nat) (μ m ν v : Mem) : Prop := (∀ K i, K ≠ 8 → ¬ (K = 3 ∧ i / 3 = s) → ¬ (K = 23 ∧ i / 3 = s) → ¬ ((K = 7 ∨ K = 24 ∨ K = 25 ∨ K = 26) ∧ i = s) → m K i = μ K i) ∧ (∀ K, K ≠ 13 → K ≠ 40 → v K = ν K) ∧ ∀ f, (f < 12 ∨ 17 < f) → v 13 0 f = ν 13 0 f
theorem FLd.rf {s : Nat} {μ ν : Mem} : FLd s μ μ ν ν := ⟨fun _ _ _ _ _ _ => rfl, fun _ _ _ => rfl, fun _ _ => rfl⟩
theorem FLd.tr {s : Nat} {μ m m' ν v v' : Mem} (h : FLd s μ m ν v) (h' : FLd s m m' v v') : FLd s μ m' ν v' := ⟨fun K i a b c d => (h'.1 K i a b c d).trans (h.1 K i a b c d), fun K a b => (h'.2.1 K a b).trans (h.2.1 K a b), fun f a => (h'.2.2 f a).trans (h.2.2 f a)⟩
theorem FRD.fld {s : Nat} {μ m ν v : Mem} (h : FRD 8 μ m ν v) : FLd s μ m ν v := ⟨fun K i a _ _ _ => by rw [h.1 K a], fun K a _ => h.2.2.1 K a, h.2.2.2⟩
theorem FLd.c {s K i f : Nat} {μ m ν v : Mem} {x : Int32} (h : FLd s μ m ν v) (hK : (K = 3 ∧ i / 3 = s) ∨ (K = 23 ∧ i / 3 = s) ∨ ((K = 7 ∨ K = 24 ∨ K = 25 ∨ K = 26) ∧ i = s)) : FLd s μ (st3 m K i f x) ν v := ⟨fun K' i' a b c d => by
  by_cases e : K' = K
  · subst e
    rw [st3_J (by rintro rfl; omega)]
    exact h.1 K' i' a b c d
  · rw [st3_K e]; exact h.1 K' i' a b c d, h.2⟩
theorem FLd.m {s k : Nat} {μ m ν v : Mem} {x : Int32} (h : FLd s μ m ν v) : FLd s μ m ν (st3 v 40 0 k x) := ⟨h.1, fun K a b => by rw [st3_K b]; exact h.2.1 K a b, fun f a => by rw [st3_K (by omega)]; exact h.2.2 f a⟩
/-- counts that are bounded, whatever went wrong -/
def SAN (s : Nat) (μ ν : Mem) : Prop := (∃ n, n ≤ 8 ∧ μ 3 (3 * s) 1 = nI n) ∧ (∃ n, n ≤ 8 ∧ μ 3 (3 * s + 1) 1 = nI n) ∧ (∃ n, n ≤ 8 ∧ μ 3 (3 * s + 2) 1 = nI n) ∧ (∃ n, n ≤ 5 ∧ μ 7 s 11 = nI n) ∧ (∃ n, n ≤ 6 ∧ ν 40 0 6 = nI n) ∧ (∃ n, n ≤ 6 ∧ ν 40 0 7 = nI n) ∧ (∃ n, n ≤ 8 ∧ ν 40 0 8 = nI n) ∧ (∃ n, n ≤ 5 ∧ ν 40 0 9 = nI n)
theorem SAN.cong {s : Nat} {μ ν m v : Mem} (h : SAN s μ ν) (h1 : m 3 = μ 3) (h2 : m 7 s 11 = μ 7 s 11) (h3 : ∀ k, 6 ≤ k → k ≤ 9 → v 40 0 k = ν 40 0 k) : SAN s m v := by
  unfold SAN
  rw [h1, h2, h3 6 (by omega) (by omega), h3 7 (by omega) (by omega), h3 8 (by omega) (by omega), h3 9 (by omega) (by omega)]
  exact h
/-- a fresh shop -/
def FSH (s : Nat) (μ ν : Mem) (C O : Nat) : Prop := (ν 40 0 5 = 0 ∧ ν 40 0 10 = 0 ∧ ν 40 0 11 = 0 ∧ ν 40 0 12 = 0 ∧ ν 40 0 13 = 0 ∧ ν 40 0 14 = 0) ∧ ν 40 0 0 = μ 7 s 0 ∧ (∀ c, c < C → ν 40 0 (28 + 3 * c + 1) = μ 24 s c) ∧ (∀ o, o < 5 → ν 40 0 (52 + 5 * o + 1) = 0 ∧ ν 40 0 (52 + 5 * o + 2) = 0) ∧ ∀ o, o < O → ν 40 0 (52 + 5 * o + 3) = -1
/-- so far -/
def LD (s : Nat) (μ ν : Mem) (B : Nat → Nat) (L E P C O : Nat) : Prop := RS0 8 μ ν B L ∧ SAN s μ ν ∧ (μ 8 0 4 = 0 → ST μ s (ν 40 0) E P C O ∧ FSH s μ ν C O)
section Load
variable {s : Nat} {μ ν : Mem} {B : Nat → Nat} {L E P C O : Nat}
theorem n8 : (8 : Nat) = 6 ∨ (8 : Nat) = 8 := Or.inr rfl
theorem P_takeWord {K w w' : Nat} (hK : K = 6 ∨ K = 8) (hw : sTx w = sTx w') (hl : (sTx w).length ≤ 20) (h : RS0 K μ ν B L) : ∃ r r2 m v, f_Reader_takeWord K w μ = some m ∧ f_R_isWord w' ν = some r ∧ f_R_must r 1 ν = some r2 ∧ f_R_goesOn r2.2 = some v ∧ PO K μ ν m v B L := by
  obtain ⟨r, s1, s2, s3⟩ := P_sees hw hl h
  have he := h.er
  unfold f_Reader_takeWord
  rw [s1, bind_s]
  rcases s3 with rfl | ⟨rfl, z, -⟩
  · obtain ⟨m, v, f1, f2, f3, f4⟩ := P_fail (c := 1) hK (by decide) h
    exact ⟨0, _, m, v, by rw [if_pos rfl, f1, bind_s], s2, f2, by rw [snd_, goes_er (by rw [← f3.1.er]; exact f4)], f3⟩
  · obtain ⟨m, v, g1, g2, g3, -⟩ := P_go hK h
    exact ⟨1, _, m, v, by rw [if_neg (by decide), g1, bind_s], s2, must_ok (by rw [← he]; exact z), by rw [snd_, goes_ok (by rw [← he]; exact z), g2], g3⟩
-- nothing more behind an error
theorem looks_er (h : ν 13 0 16 ≠ 0) : f_R_looksAtName ν = some (0, ν) := by
  unfold f_R_looksAtName
  have : ∀ q : Int32, (f_R_must q 1 ν).bind (fun r2 => ((if r2.1 = 0 then (some (r2.2)) else (((if (6 : Int32) < ((r2.2 13 0 12) - (r2.2 13 0 13)) then (some (0)) else (some (1)) : Option (Int32))).bind (fun q5 => ((f_R_must q5 2 r2.2)).bind (fun r6 => some (r6.2)))) : Option (Mem))).bind (fun q3 => if (q3 13 0 16) = 0 then (((f_R_packed (q3 13 0 13) ((q3 13 0 12) - (q3 13 0 13)) q3)).bind (fun r4 => some ((r4, q3)))) else (some ((0, q3))))) = some (0, ν) := fun q => by
    rw [must_er h, bind_s, if_pos rfl, bind_s, snd_, if_neg h]
  split
  · rw [bind_s]; exact this 1
  · rw [bind_s]; exact this 0
theorem pass_er {t : Int32} (h : ν 13 0 16 ≠ 0) : f_R_passesName t ν = some ν := by
  unfold f_R_passesName
  rw [if_neg h, bind_s, must_er h, bind_s, snd_, goes_er h, bind_s]
theorem sign_er {c : Int32} (h : ν 13 0 16 ≠ 0) : f_R_takesSign c ν = some ν := by
  unfold f_R_takesSign f_R_isSign
  rw [if_neg h, bind_s, must_er h, bind_s, snd_, goes_er h, bind_s]
theorem word_er {w : Nat} (h : ν 13 0 16 ≠ 0) : f_R_isWord w ν = some 0 := by
  unfold f_R_isWord
  rw [if_neg h]
theorem sees_er {K w : Nat} (h : μ K 0 4 ≠ 0) : f_Reader_sees K w μ = some 0 := by
  unfold f_Reader_sees
  rw [if_neg h]
theorem bind_if {α β : Type} {c : Prop} [Decidable c] {a b : α} {F : α → Option β} : (if c then some a else some b : Option α).bind F = F (if c then a else b) := by split <;> rfl
/-- the head -/
theorem L_shop (hs : s < 2) (h : RS0 8 μ ν B L) (hc : μ 3 (3 * s) 1 = 0 ∧ μ 3 (3 * s + 1) 1 = 0 ∧ μ 3 (3 * s + 2) 1 = 0 ∧ μ 7 s 11 = 0) (hz : ∀ k, k < 524 → ν 40 0 k = 0) :
    ∃ m v, f_SetupReader_readShop s μ = some m ∧ (∀ F : Mem → Option Mem, ((f_R_isWord 27 ν)).bind (fun r1 => ((f_R_must r1 1 ν)).bind (fun r2 => ((f_R_goesOn r2.2)).bind (fun r3 => ((f_R_number 0 99999 r3)).bind (fun r4 => chk (inb 0 524) (nm (st3 r4.2 40 0 (0 : Int32).toNatClampNeg r4.1) (fun μ6 => ((f_R_number 1 9 μ6)).bind (fun r7 => chk (inb 1 524) (nm (st3 r7.2 40 0 (1 : Int32).toNatClampNeg r7.1) (fun μ9 => ((f_R_number 0 99 μ9)).bind (fun r10 => chk (inb 2 524) (nm (st3 r10.2 40 0 (2 : Int32).toNatClampNeg r10.1) (fun μ12 => ((f_R_number 0 200 μ12)).bind (fun r13 => chk (inb 3 524) (nm (st3 r13.2 40 0 (3 : Int32).toNatClampNeg r13.1) (fun μ15 => ((f_R_number 0 200 μ15)).bind (fun r16 => chk (inb 4 524) (nm (st3 r16.2 40 0 (4 : Int32).toNatClampNeg r16.1) (fun μ18 => chk (inb 0 524) (chk (inb 15 524) (nm (st3 μ18 40 0 (15 : Int32).toNatClampNeg (μ18 40 0 (0 : Int32).toNatClampNeg)) (fun μ21 => ((f_R_takesSign 59 μ21)).bind F))))))))))))))))))))) = F v) ∧ LD s m v B L 0 0 0 0 ∧ FLd s μ m ν v := by
  obtain ⟨r, r2, m0, v0, w1, w2, w3, w4, w5⟩ := P_takeWord (w := 2) (w' := 27) n8 rfl (by decide) h
  obtain ⟨x1, y1, m1, v1, a1, b1, c1, d1⟩ := P_number (lo := 0) (hi := 99999) n8 (by omega) (by omega) (w5.1)
  have h1 : RS0 8 (st3 m1 7 s 0 x1) (st3 v1 40 0 0 y1) B L := c1.1.cong (st3_K (by omega)) (st3_K (by omega)) (st3_K (by omega)) (st3_K (by omega)) (st3_K (by omega))
  obtain ⟨x2, y2, m2, v2, a2, b2, c2, d2⟩ := P_number (lo := 1) (hi := 9) n8 (by omega) (by omega) (h1)
  have h2 : RS0 8 (st3 m2 7 s 1 x2) (st3 v2 40 0 1 y2) B L := c2.1.cong (st3_K (by omega)) (st3_K (by omega)) (st3_K (by omega)) (st3_K (by omega)) (st3_K (by omega))
  obtain ⟨x3, y3, m3, v3, a3, b3, c3, d3⟩ := P_number (lo := 0) (hi := 99) n8 (by omega) (by omega) (h2)
  have h3 : RS0 8 (st3 m3 7 s 2 x3) (st3 v3 40 0 2 y3) B L := c3.1.cong (st3_K (by omega)) (st3_K (by omega)) (st3_K (by omega)) (st3_K (by omega)) (st3_K (by omega))
  obtain ⟨x4, y4, m4, v4, a4, b4, c4, d4⟩ := P_number (lo := 0) (hi := 200) n8 (by omega) (by omega) (h3)
  have h4 : RS0 8 (st3 m4 7 s 3 x4) (st3 v4 40 0 3 y4) B L := c4.1.cong (st3_K (by omega)) (st3_K (by omega)) (st3_K (by omega)) (st3_K (by omega)) (st3_K (by omega))
  obtain ⟨x5, y5, m5, v5, a5, b5, c5, d5⟩ := P_number (lo := 0) (hi := 200) n8 (by omega) (by omega) (h4)
  have h5 : RS0 8 (st3 m5 7 s 4 x5) (st3 v5 40 0 4 y5) B L := c5.1.cong (st3_K (by omega)) (st3_K (by omega)) (st3_K (by omega)) (st3_K (by omega)) (st3_K (by omega))
  have h6 : RS0 8 (st3 m5 7 s 4 x5) (st3 (st3 v5 40 0 4 y5) 40 0 15 ((st3 v5 40 0 4 y5) 40 0 0)) B L := h5.cong rfl rfl rfl (st3_K (by omega)) (st3_K (by omega))
  obtain ⟨m, v, e1, e2, e3⟩ := P_takeSign (c := 59) n8 (Or.inl rfl) h6
  have g0 := w5.2.1
  have z5 : m 8 0 4 = 0 → m5 8 0 4 = 0 := fun q => by have := e3.2.2 q; rwa [st3_K (by omega)] at this
  have z4 : m5 8 0 4 = 0 → m4 8 0 4 = 0 := fun q => by have := c5.2.2 q; rwa [st3_K (by omega)] at this
  have z3 : m4 8 0 4 = 0 → m3 8 0 4 = 0 := fun q => by have := c4.2.2 q; rwa [st3_K (by omega)] at this
  have z2 : m3 8 0 4 = 0 → m2 8 0 4 = 0 := fun q => by have := c3.2.2 q; rwa [st3_K (by omega)] at this
  have z1 : m2 8 0 4 = 0 → m1 8 0 4 = 0 := fun q => by have := c2.2.2 q; rwa [st3_K (by omega)] at this
  have e7 : m 7 s = ua (ua (ua (ua (ua (μ 7 s) 0 x1) 1 x2) 2 x3) 3 x4) 4 x5 := by
    rw [e3.2.1.1 7 (by omega), st3_ua, c5.2.1.1 7 (by omega), st3_ua, c4.2.1.1 7 (by omega), st3_ua, c3.2.1.1 7 (by omega), st3_ua, c2.2.1.1 7 (by omega), st3_ua, c1.2.1.1 7 (by omega), g0.1 7 (by omega)]
  have e40 : v 40 0 = ua (ua (ua (ua (ua (ua (ν 40 0) 0 y1) 1 y2) 2 y3) 3 y4) 4 y5) 15 y1 := by
    have q0 : (st3 v5 40 0 4 y5) 40 0 0 = y1 := by
      rw [st3_ua, ua_N (by omega), c5.2.1.2.2.1 40 (by omega), st3_ua, ua_N (by omega), c4.2.1.2.2.1 40 (by omega), st3_ua, ua_N (by omega), c3.2.1.2.2.1 40 (by omega), st3_ua, ua_N (by omega), c2.2.1.2.2.1 40 (by omega), st3_ua, ua_S]
    rw [e3.2.1.2.2.1 40 (by omega), q0, st3_ua, st3_ua, c5.2.1.2.2.1 40 (by omega), st3_ua, c4.2.1.2.2.1 40 (by omega), st3_ua, c3.2.1.2.2.1 40 (by omega), st3_ua, c2.2.1.2.2.1 40 (by omega), st3_ua, c1.2.1.2.2.1 40 (by omega), g0.2.2.1 40 (by omega)]
  have mK : ∀ K, K ≠ 8 → K ≠ 7 → m K = μ K := fun K k1 k2 => by
    rw [e3.2.1.1 K k1, st3_K k2, c5.2.1.1 K k1, st3_K k2, c4.2.1.1 K k1, st3_K k2, c3.2.1.1 K k1, st3_K k2, c2.2.1.1 K k1, st3_K k2, c1.2.1.1 K k1, g0.1 K k1]
  have vz : ∀ k, k < 524 → 5 ≤ k → k ≠ 15 → v 40 0 k = 0 := fun k k1 k2 k3 => by
    rw [e40, ua_N (by omega), ua_N (by omega), ua_N (by omega), ua_N (by omega), ua_N (by omega), ua_N (by omega)]; exact hz k k1
  have m11 : m 7 s 11 = 0 := by rw [e7, ua_N (by omega), ua_N (by omega), ua_N (by omega), ua_N (by omega), ua_N (by omega)]; exact hc.2.2.2
  have m3a : ∀ j, m 3 j = μ 3 j := fun j => by rw [mK 3 (by omega) (by omega)]
  refine ⟨m, v, ?_, fun F => ?_, ⟨e3.1, ⟨⟨0, by omega, by rw [m3a]; exact hc.1⟩, ⟨0, by omega, by rw [m3a]; exact hc.2.1⟩, ⟨0, by omega, by rw [m3a]; exact hc.2.2.1⟩, ⟨0, by omega, m11⟩, ⟨0, by omega, vz 6 (by omega) (by omega) (by omega)⟩, ⟨0, by omega, vz 7 (by omega) (by omega) (by omega)⟩, ⟨0, by omega, vz 8 (by omega) (by omega) (by omega)⟩, ⟨0, by omega, vz 9 (by omega) (by omega) (by omega)⟩⟩, fun q => ?_⟩, ?_⟩
  · unfold f_SetupReader_readShop
    rw [w1, bind_s, show f_Reader_takeNumber 8 0 99999 m0 = some (x1, m1) from a1, bind_s, nm_9, show f_Reader_takeNumber 8 1 9 (st3 m1 7 s 0 x1) = some (x2, m2) from a2, bind_s, nm_9, show f_Reader_takeNumber 8 0 99 (st3 m2 7 s 1 x2) = some (x3, m3) from a3, bind_s, nm_9, show f_Reader_takeNumber 8 0 200 (st3 m3 7 s 2 x3) = some (x4, m4) from a4, bind_s, nm_9, show f_Reader_takeNumber 8 0 200 (st3 m4 7 s 3 x4) = some (x5, m5) from a5, bind_s, nm_9, show f_Reader_takeSign 8 59 (st3 m5 7 s 4 x5) = some m from e1, bind_s]
  · rw [w2, bind_s, w3, bind_s, w4, bind_s, show f_R_number 0 99999 v0 = some (y1, v1) from b1, bind_s, ib_0_524, chk_t, tn_0, nm_9, show f_R_number 1 9 (st3 v1 40 0 0 y1) = some (y2, v2) from b2, bind_s, ib_1_524, chk_t, tn_1, nm_9, show f_R_number 0 99 (st3 v2 40 0 1 y2) = some (y3, v3) from b3, bind_s, ib_2_524, chk_t, tn_2, nm_9, show f_R_number 0 200 (st3 v3 40 0 2 y3) = some (y4, v4) from b4, bind_s, ib_3_524, chk_t, tn_3, nm_9, show f_R_number 0 200 (st3 v4 40 0 3 y4) = some (y5, v5) from b5, bind_s, ib_4_524, chk_t, tn_4, nm_9, chk_t, ib_15_524, chk_t, tn_15, nm_9]
    rw [show f_R_takesSign 59 (st3 (st3 v5 40 0 4 y5) 40 0 15 ((st3 v5 40 0 4 y5) 40 0 0)) = some v from e2, bind_s]
  · obtain ⟨n5, -, -, p5, q5⟩ := d5 (z5 q)
    obtain ⟨n4, -, -, p4, q4⟩ := d4 (z4 (z5 q))
    obtain ⟨n3, -, -, p3, q3⟩ := d3 (z3 (z4 (z5 q)))
    obtain ⟨n2, -, hn2, p2, q2⟩ := d2 (z2 (z3 (z4 (z5 q))))
    obtain ⟨n1, -, -, p1, q1⟩ := d1 (z1 (z2 (z3 (z4 (z5 q)))))
    have t : ∀ f, m 7 s f = (ua (ua (ua (ua (ua (μ 7 s) 0 x1) 1 x2) 2 x3) 3 x4) 4 x5) f := fun f => by rw [e7]
    have u : ∀ f, v 40 0 f = (ua (ua (ua (ua (ua (ua (ν 40 0) 0 y1) 1 y2) 2 y3) 3 y4) 4 y5) 15 y1) f := fun f => by rw [e40]
    refine ⟨⟨hs, by omega, by omega, by omega, by omega, ⟨by rw [m3a]; exact hc.1, vz 6 (by omega) (by omega) (by omega)⟩, ⟨by rw [m3a]; exact hc.2.1, vz 7 (by omega) (by omega) (by omega)⟩, ⟨by rw [m3a]; exact hc.2.2.1, vz 8 (by omega) (by omega) (by omega)⟩, ⟨m11, vz 9 (by omega) (by omega) (by omega)⟩, ⟨n2, hn2, ?_, ?_⟩, ?_, ?_, ?_, fun _ z => absurd z (by omega), fun _ z => absurd z (by omega), fun _ z => absurd z (by omega), fun _ z => absurd z (by omega), ?_⟩, ⟨vz 5 (by omega) (by omega) (by omega), vz 10 (by omega) (by omega) (by omega), vz 11 (by omega) (by omega) (by omega), vz 12 (by omega) (by omega) (by omega), vz 13 (by omega) (by omega) (by omega), vz 14 (by omega) (by omega) (by omega)⟩, ?_, fun _ z => absurd z (by omega), fun o ho => ⟨vz _ (by omega) (by omega) (by omega), vz _ (by omega) (by omega) (by omega)⟩, fun _ z => absurd z (by omega)⟩
    · rw [t, ua_N (by omega), ua_N (by omega), ua_N (by omega), ua_S, p2]
    · rw [u, ua_N (by omega), ua_N (by omega), ua_N (by omega), ua_N (by omega), ua_S, q2]
    · rw [t, u, ua_N (by omega), ua_N (by omega), ua_S, ua_N (by omega), ua_N (by omega), ua_N (by omega), ua_S, p3, q3]
    · rw [t, u, ua_N (by omega), ua_S, ua_N (by omega), ua_N (by omega), ua_S, p4, q4]
    · rw [t, u, ua_S, ua_N (by omega), ua_S, p5, q5]
    · rw [t, u, ua_S, ua_N (by omega), ua_N (by omega), ua_N (by omega), ua_N (by omega), ua_S, p1, q1]
      exact (Int32.add_zero _).symm
    · rw [t, u, ua_N (by omega), ua_N (by omega), ua_N (by omega), ua_N (by omega), ua_N (by omega), ua_S, ua_N (by omega), ua_N (by omega), ua_N (by omega), ua_N (by omega), ua_S, p1, q1]
  · have f7 : ∀ (f : Nat) (x : Int32) (mm vv : Mem) (y : Int32) (k : Nat), FLd s mm (st3 mm 7 s f x) vv (st3 vv 40 0 k y) := fun f x mm vv y k => (FLd.rf.c (Or.inr (Or.inr ⟨Or.inl rfl, rfl⟩))).m
    exact ((((((((((g0.fld.tr c1.2.1.fld).tr (f7 0 x1 m1 v1 y1 0)).tr c2.2.1.fld).tr (f7 1 x2 m2 v2 y2 1)).tr c3.2.1.fld).tr (f7 2 x3 m3 v3 y3 2)).tr c4.2.1.fld).tr (f7 3 x4 m4 v4 y4 3)).tr c5.2.1.fld).tr (f7 4 x5 m5 v5 y5 4)).tr (FLd.rf.m) |>.tr e3.2.1.fld
end Load
